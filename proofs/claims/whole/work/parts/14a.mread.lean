/-! own text: the reference reads its tape: places, numbers -/
/-- the reference's tape is T, of length L -/
def Mp (N : Nm) (T : Nat → Int) (L : Nat) : Prop := N 40 0 2 = L ∧ L ≤ 400 ∧ ∀ j, j < L → N 41 0 j = T j ∧ 0 ≤ T j ∧ T j ≤ 255
/-- it stands at p; w is wrong (-1: nothing) -/
def Me (N : Nm) (T : Nat → Int) (L p : Nat) (w : Int) : Prop := Mp N T L ∧ N 40 0 3 = p ∧ p ≤ L ∧ N 40 0 4 = w ∧ -1 ≤ w ∧ w ≤ 400
/-- nothing but the place and what is wrong has changed -/
def FrM (N N' : Nm) : Prop := ∀ k i j, ¬ (k = 40 ∧ (j = 3 ∨ j = 4)) → N' k i j = N k i j
theorem FrM.rf (N : Nm) : FrM N N := fun _ _ _ _ => rfl
theorem FrM.tr {A B C : Nm} (h1 : FrM A B) (h2 : FrM B C) : FrM A C := fun k a j q => (h2 k a j q).trans (h1 k a j q)
theorem FrM.up {A B : Nm} {i j : Nat} {v : Int} (h : FrM A B) (hj : j = 3 ∨ j = 4) : FrM A (upN B 40 i j v) := fun k' a' j' q => by
  rw [← h k' a' j' q]
  exact if_neg (fun y => q ⟨y.1, by omega⟩)
theorem Mp.of {N N' : Nm} {T : Nat → Int} {L : Nat} (h : Mp N T L) (f1 : N' 40 0 2 = N 40 0 2) (f2 : ∀ j, N' 41 0 j = N 41 0 j) : Mp N' T L := ⟨by rw [f1]; exact h.1, h.2.1, fun j hj => by rw [f2]; exact h.2.2 j hj⟩
theorem Me.go {N N' : Nm} {T : Nat → Int} {L p q : Nat} {z w : Int} (h : Me N T L p w) (hz : z = q) (hq : q ≤ L) (hN : N' = upN N 40 0 3 z) : Me N' T L q w := by
  subst hN
  exact ⟨h.1.of (upN_j (by decide)) (fun j => upN_k (by decide)), by rw [upN_eq]; exact hz, hq, by rw [upN_j (by decide)]; exact h.2.2.2.1, h.2.2.2.2⟩
theorem Me.bad {N N' : Nm} {T : Nat → Int} {L p : Nat} {z w : Int} (h : Me N T L p w) (hz : -1 ≤ z ∧ z ≤ 400) (hN : N' = upN N 40 0 4 z) : Me N' T L p z := by
  subst hN
  exact ⟨h.1.of (upN_j (by decide)) (fun j => upN_k (by decide)), by rw [upN_j (by decide)]; exact h.2.1, h.2.2.1, upN_eq _ _ _ _ _, hz⟩
theorem Me.of {N N' : Nm} {T : Nat → Int} {L p : Nat} {w : Int} (h : Me N T L p w) (f1 : ∀ j, j = 2 ∨ j = 3 ∨ j = 4 → N' 40 0 j = N 40 0 j) (f2 : ∀ j, N' 41 0 j = N 41 0 j) : Me N' T L p w :=
  ⟨h.1.of (f1 2 (by omega)) f2, by rw [f1 3 (by omega)]; exact h.2.1, h.2.2.1, by rw [f1 4 (by omega)]; exact h.2.2.2.1, h.2.2.2.2⟩
theorem mtat_r {N : Nm} {T : Nat → Int} {L : Nat} (h : Mp N T L) (p : Nat) : -1 ≤ tat T L p ∧ tat T L p ≤ 255 := by
  unfold tat
  split
  · rename_i c
    have := (h.2.2 p c).2; omega
  · omega
section MRead9
variable {K : Kx} {N : Nm} {g : Ge} {T : Nat → Int} {L p : Nat} {w : Int}
theorem c_mHere {Pq : Int → Nm → Ge → Prop} (hR : Me N T L p w) (hq : Pq (tat T L p) N g) : Ck K YX10_here hX10_here [vr 40 0] N g (qI Pq) := by
  obtain ⟨⟨t1, t2, t3⟩, r1, r2, r3, r4⟩ := id hR
  refine Ck.intro 0 (by decide) rfl ?_
  show AW _ _ _ _ _ [some (vr 40 0)] _ _ _
  unfold tat at hq
  refine ld_a0 iX10_here_0 ?_
  refine gf_X10_at kFX10_86 iX10_here_1 ?_
  rw [r1]
  refine ld_a0 iX10_here_4 ?_
  refine gf_X10_taped kFX10_79 iX10_here_5 ?_
  rw [t1]
  refine r_icmpge iX10_here_8 (by omega) (by omega) (fun h8 => ?_) (fun h8 => ?_)
  · refine r_iconst iX10_here_23 ?_
    refine t_int rfl iX10_here_24 ?_
    first
      | (rw [if_pos (by omega)] at hq; exact hq)
      | (rw [if_neg (by omega)] at hq; exact hq)
  · refine ld_a0 iX10_here_11 ?_
    refine gf_X10_tape kFX10_9 iX10_here_12 ?_
    refine ld_a0 iX10_here_15 ?_
    refine gf_X10_at kFX10_86 iX10_here_16 ?_
    rw [r1]
    refine al_41 rfl (by omega) iX10_here_19 ?_
    rw [(t3 p (by omega)).1]
    refine r_goto iX10_here_20 ?_
    refine t_int rfl iX10_here_24 ?_
    first
      | (rw [if_pos (by omega)] at hq; exact hq)
      | (rw [if_neg (by omega)] at hq; exact hq)
theorem c_mAhead {Pq : Int → Nm → Ge → Prop} (hR : Me N T L p w) (hq : ∀ N', FrM N N' → Me N' T L (sk T L p) w → Pq (tat T L (sk T L p)) N' g) : Ck K YX10_ahead hX10_ahead [vr 40 0] N g (qI Pq) := by
  refine Ck.intro 0 (by decide) rfl ?_
  show AW _ _ _ _ _ [some (vr 40 0)] _ _ _
  have loop : ∀ (n u : Nat) (N' : Nm), L - u = n → FrM N N' → Me N' T L u w → sk T L u = sk T L p → AW K YX10_ahead hX10_ahead (qI Pq) 0 [some (vr 40 0)] [] N' g := by
    intro n
    induction n using Nat.strongRecOn with
    | _ n ih =>
      intro u N' e hF hR' hs
      obtain ⟨hT, r1, r2, r3, r4⟩ := id hR'
      have t2 := hT.2.1
      have hb := mtat_r hT u
      refine ld_a0 iX10_ahead_0 ?_
      refine xX10_here kMX10_89 iX10_ahead_1 (by decide) (Nat.le_of_ble_eq_true rfl) rfl rfl ?_
      refine c_mHere hR' ?_
      refine r_bipush (by decide) iX10_ahead_4 ?_
      refine r_icmpne iX10_ahead_6 (by omega) (by omega) (fun h6 => ?_) (fun h6 => ?_)
      · have hu : sk T L u = u := sk_stop (fun z => h6 (by unfold tat; rw [if_pos z.1]; exact z.2))
        refine ld_a0 iX10_ahead_22 ?_
        refine xX10_here kMX10_89 iX10_ahead_23 (by decide) (Nat.le_of_ble_eq_true rfl) rfl rfl ?_
        refine c_mHere hR' ?_
        refine t_int rfl iX10_ahead_26 ?_
        rw [← hs, hu] at hq
        exact hq N' hF hR'
      · have hin := tat_in (T := T) (L := L) (p := u) (by omega)
        have h32 : T u = 32 := by unfold tat at h6; rw [if_pos hin] at h6; exact h6
        refine ld_a0 iX10_ahead_9 ?_
        refine r_dup rfl iX10_ahead_10 ?_
        refine gf_X10_at kFX10_86 iX10_ahead_11 ?_
        rw [r1]
        refine r_iconst iX10_ahead_14 ?_
        refine r_iadd iX10_ahead_15 ?_
        refine pf_X10_at kFX10_86 iX10_ahead_16 ?_
        refine r_goto iX10_ahead_19 ?_
        exact ih (L - (u + 1)) (by omega) (u + 1) _ rfl (hF.up (by omega)) (hR'.go (by omega) (by omega) rfl) (by rw [← sk_step hin h32]; exact hs)
  exact loop (L - p) p N rfl (FrM.rf N) hR rfl
theorem c_mBadAt {z : Int} {Pq : Nm → Ge → Prop} (hR : Me N T L p w) (hz : 0 ≤ z ∧ z ≤ 400) (hq : ∀ N', FrM N N' → Me N' T L p (if w = -1 then z else w) → Pq N' g) : Ck K YX10_badAt hX10_badAt [vr 40 0, vi z] N g (qV Pq) := by
  obtain ⟨hT, r1, r2, r3, r4⟩ := id hR
  refine Ck.intro 0 (by decide) rfl ?_
  show AW _ _ _ _ _ [some (vr 40 0), some (vi z)] _ _ _
  have tl : ∀ y : Int, y = (if w = -1 then z else w) → AW K YX10_badAt hX10_badAt (qV Pq) 17 [some (vr 40 0), some (vi z)] [vi y, vr 40 0] N g := by
    intro y hy
    rw [← hy] at hq
    refine pf_X10_wrong kFX10_93 iX10_badAt_17 ?_
    refine t_void rfl iX10_badAt_20 ?_
    exact hq _ ((FrM.rf N).up (by omega)) (hR.bad (by rw [hy]; split <;> omega) rfl)
  refine ld_a0 iX10_badAt_0 ?_
  refine ld_a0 iX10_badAt_1 ?_
  refine gf_X10_wrong kFX10_93 iX10_badAt_2 ?_
  rw [r3]
  refine r_iconst iX10_badAt_5 ?_
  refine r_icmpne iX10_badAt_6 (by omega) (by omega) (fun h6 => ?_) (fun h6 => ?_)
  · refine ld_a0 iX10_badAt_13 ?_
    refine gf_X10_wrong kFX10_93 iX10_badAt_14 ?_
    rw [r3]
    refine tl _ ?_
    first
      | rw [if_pos (by omega)]
      | rw [if_neg (by omega)]
  · refine ld_i1 iX10_badAt_9 ?_
    refine r_goto iX10_badAt_10 ?_
    refine tl _ ?_
    first
      | rw [if_pos (by omega)]
      | rw [if_neg (by omega)]
theorem c_mBad {Pq : Nm → Ge → Prop} (hR : Me N T L p w) (hq : ∀ N', FrM N N' → Me N' T L p (if w = -1 then (p : Int) else w) → Pq N' g) : Ck K YX10_bad hX10_bad [vr 40 0] N g (qV Pq) := by
  have t2 := hR.1.2.1
  have r2 := hR.2.2.1
  refine Ck.intro 0 (by decide) rfl ?_
  show AW _ _ _ _ _ [some (vr 40 0)] _ _ _
  refine ld_a0 iX10_bad_0 ?_
  refine ld_a0 iX10_bad_1 ?_
  refine gf_X10_at kFX10_86 iX10_bad_2 ?_
  rw [hR.2.1]
  refine xX10_badAt kMX10_96 iX10_bad_5 (by decide) (Nat.le_of_ble_eq_true rfl) rfl rfl ?_
  refine c_mBadAt hR (by omega) (fun N1 f1 e1 => ?_)
  refine t_void rfl iX10_bad_8 ?_
  exact hq N1 f1 e1
/-- where nothing is wrong yet -/
theorem c_mBad1 {Pq : Nm → Ge → Prop} (hR : Me N T L p (-1)) (hq : ∀ N', FrM N N' → Me N' T L p (p : Int) → Pq N' g) : Ck K YX10_bad hX10_bad [vr 40 0] N g (qV Pq) := c_mBad hR (fun N' f e => hq N' f (by rw [if_pos rfl] at e; exact e))
theorem c_mBad0 {Pq : Nm → Ge → Prop} (hR : Me N T L p w) (hw : w ≠ -1) (hq : ∀ N', FrM N N' → Me N' T L p w → Pq N' g) : Ck K YX10_bad hX10_bad [vr 40 0] N g (qV Pq) := c_mBad hR (fun N' f e => hq N' f (by rw [if_neg hw] at e; exact e))
theorem c_mMust1 {c : Int} {Pq : Nm → Ge → Prop} (hc : 0 ≤ c ∧ c ≤ 255) (hR : Me N T L p (-1)) (hq : ∀ p' w' N', FrM N N' → Me N' T L p' w' → ((tat T L (sk T L p) = c ∧ sk T L p < L ∧ p' = sk T L p + 1 ∧ w' = -1) ∨ (tat T L (sk T L p) ≠ c ∧ w' = (sk T L p : Int))) → Pq N' g) : Ck K YX10_must hX10_must [vr 40 0, vi c] N g (qV Pq) := by
  have hb := mtat_r hR.1 (sk T L p)
  have r3 := hR.2.2.2.1
  refine Ck.intro 0 (by decide) rfl ?_
  show AW _ _ _ _ _ [some (vr 40 0), some (vi c)] _ _ _
  refine ld_a0 iX10_must_0 ?_
  refine gf_X10_wrong kFX10_93 iX10_must_1 ?_
  rw [r3]
  refine r_iconst iX10_must_4 ?_
  refine r_icmpne iX10_must_5 (by omega) (by omega) (fun h5 => ?_) (fun h5 => ?_)
  · exfalso; omega
  · refine ld_a0 iX10_must_8 ?_
    refine xX10_ahead kMX10_100 iX10_must_9 (by decide) (Nat.le_of_ble_eq_true rfl) rfl rfl ?_
    refine c_mAhead hR (fun N1 f1 e1 => ?_)
    refine ld_i1 iX10_must_12 ?_
    refine r_icmpne iX10_must_13 (by omega) (by omega) (fun h13 => ?_) (fun h13 => ?_)
    · refine ld_a0 iX10_must_29 ?_
      refine xX10_bad kMX10_103 iX10_must_30 (by decide) (Nat.le_of_ble_eq_true rfl) rfl rfl ?_
      refine c_mBad1 e1 (fun N2 f2 e2 => ?_)
      refine t_void rfl iX10_must_33 ?_
      first
        | exact hq _ _ _ (f1.up (by omega)) (e1.go (q := sk T L p + 1) (by omega) (by omega) rfl) (Or.inl ⟨h13, hl, rfl, rfl⟩)
        | exact hq _ _ N2 (f1.tr f2) e2 (Or.inr ⟨h13, rfl⟩)
    · have hl := tat_in (T := T) (L := L) (p := sk T L p) (by omega)
      refine ld_a0 iX10_must_16 ?_
      refine r_dup rfl iX10_must_17 ?_
      refine gf_X10_at kFX10_86 iX10_must_18 ?_
      rw [e1.2.1]
      refine r_iconst iX10_must_21 ?_
      refine r_iadd iX10_must_22 ?_
      refine pf_X10_at kFX10_86 iX10_must_23 ?_
      refine r_goto iX10_must_26 ?_
      refine t_void rfl iX10_must_33 ?_
      first
        | exact hq _ _ _ (f1.up (by omega)) (e1.go (q := sk T L p + 1) (by omega) (by omega) rfl) (Or.inl ⟨h13, hl, rfl, rfl⟩)
        | exact hq _ _ N2 (f1.tr f2) e2 (Or.inr ⟨h13, rfl⟩)
theorem c_mMust0 {c : Int} {Pq : Nm → Ge → Prop} (hR : Me N T L p w) (hw : w ≠ -1) (hq : ∀ N', FrM N N' → Me N' T L p w → Pq N' g) : Ck K YX10_must hX10_must [vr 40 0, vi c] N g (qV Pq) := by
  have r3 := hR.2.2.2.1
  have r4 := hR.2.2.2.2
  refine Ck.intro 0 (by decide) rfl ?_
  show AW _ _ _ _ _ [some (vr 40 0), some (vi c)] _ _ _
  refine ld_a0 iX10_must_0 ?_
  refine gf_X10_wrong kFX10_93 iX10_must_1 ?_
  rw [r3]
  refine r_iconst iX10_must_4 ?_
  refine r_icmpne iX10_must_5 (by omega) (by omega) (fun h5 => ?_) (fun h5 => ?_)
  · refine ld_a0 iX10_must_29 ?_
    refine xX10_bad kMX10_103 iX10_must_30 (by decide) (Nat.le_of_ble_eq_true rfl) rfl rfl ?_
    refine c_mBad0 hR hw (fun N2 f2 e2 => ?_)
    refine t_void rfl iX10_must_33 ?_
    exact hq N2 f2 e2
  · exfalso; omega
theorem c_mTakes1 {c : Int} {Pq : Int → Nm → Ge → Prop} (hc : 0 ≤ c ∧ c ≤ 255) (hR : Me N T L p (-1)) (hq : ∀ z p' N', (z = 0 ∨ z = 1) → FrM N N' → Me N' T L p' (-1) → ((z = 1 ∧ tat T L (sk T L p) = c ∧ sk T L p < L ∧ p' = sk T L p + 1) ∨ (z = 0 ∧ tat T L (sk T L p) ≠ c ∧ p' = sk T L p)) → Pq z N' g) : Ck K YX10_takes hX10_takes [vr 40 0, vi c] N g (qI Pq) := by
  have hb := mtat_r hR.1 (sk T L p)
  have r3 := hR.2.2.2.1
  refine Ck.intro 1 (by decide) rfl ?_
  show AW _ _ _ _ _ [some (vr 40 0), some (vi c), none] _ _ _
  refine ld_a0 iX10_takes_0 ?_
  refine gf_X10_wrong kFX10_93 iX10_takes_1 ?_
  rw [r3]
  refine r_iconst iX10_takes_4 ?_
  refine r_icmpne iX10_takes_5 (by omega) (by omega) (fun h5 => ?_) (fun h5 => ?_)
  · exfalso; omega
  · refine ld_a0 iX10_takes_8 ?_
    refine xX10_ahead kMX10_100 iX10_takes_9 (by decide) (Nat.le_of_ble_eq_true rfl) rfl rfl ?_
    refine c_mAhead hR (fun N1 f1 e1 => ?_)
    refine ld_i1 iX10_takes_12 ?_
    refine r_icmpne iX10_takes_13 (by omega) (by omega) (fun h13 => ?_) (fun h13 => ?_)
    · refine r_iconst iX10_takes_20 ?_
      refine sv_i2 (by decide) rfl iX10_takes_21 ?_
      refine ld_a0 iX10_takes_22 ?_
      refine r_dup rfl iX10_takes_23 ?_
      refine gf_X10_at kFX10_86 iX10_takes_24 ?_
      rw [e1.2.1]
      refine ld_i2 iX10_takes_27 ?_
      refine r_ifeq iX10_takes_28 (by omega) (fun h28 => ?_) (fun h28 => ?_)
      · have hl0 : (0 : Int) = 0 := by omega
        refine r_iconst iX10_takes_35 ?_
        refine r_iadd iX10_takes_36 ?_
        refine pf_X10_at kFX10_86 iX10_takes_37 ?_
        refine ld_i2 iX10_takes_40 ?_
        refine t_bool rfl (by omega) iX10_takes_41 ?_
        first
          | (exfalso; omega)
          | exact hq 1 _ _ (by omega) (f1.up (by omega)) (e1.go (q := sk T L p + 1) (by omega) (by omega) rfl) (Or.inl ⟨rfl, h13, hl, rfl⟩)
          | exact hq 0 _ _ (by omega) (f1.up (by omega)) (e1.go (q := sk T L p) (by omega) (e1.2.2.1) rfl) (Or.inr ⟨rfl, h13, rfl⟩)
      · refine r_iconst iX10_takes_31 ?_
        refine r_goto iX10_takes_32 ?_
        refine r_iadd iX10_takes_36 ?_
        refine pf_X10_at kFX10_86 iX10_takes_37 ?_
        refine ld_i2 iX10_takes_40 ?_
        refine t_bool rfl (by omega) iX10_takes_41 ?_
        first
          | (exfalso; omega)
          | exact hq 1 _ _ (by omega) (f1.up (by omega)) (e1.go (q := sk T L p + 1) (by omega) (by omega) rfl) (Or.inl ⟨rfl, h13, hl, rfl⟩)
          | exact hq 0 _ _ (by omega) (f1.up (by omega)) (e1.go (q := sk T L p) (by omega) (e1.2.2.1) rfl) (Or.inr ⟨rfl, h13, rfl⟩)
    · have hl := tat_in (T := T) (L := L) (p := sk T L p) (by omega)
      refine r_iconst iX10_takes_16 ?_
      refine r_goto iX10_takes_17 ?_
      refine sv_i2 (by decide) rfl iX10_takes_21 ?_
      refine ld_a0 iX10_takes_22 ?_
      refine r_dup rfl iX10_takes_23 ?_
      refine gf_X10_at kFX10_86 iX10_takes_24 ?_
      rw [e1.2.1]
      refine ld_i2 iX10_takes_27 ?_
      refine r_ifeq iX10_takes_28 (by omega) (fun h28 => ?_) (fun h28 => ?_)
      · have hl0 : (0 : Int) = 0 := by omega
        refine r_iconst iX10_takes_35 ?_
        refine r_iadd iX10_takes_36 ?_
        refine pf_X10_at kFX10_86 iX10_takes_37 ?_
        refine ld_i2 iX10_takes_40 ?_
        refine t_bool rfl (by omega) iX10_takes_41 ?_
        first
          | (exfalso; omega)
          | exact hq 1 _ _ (by omega) (f1.up (by omega)) (e1.go (q := sk T L p + 1) (by omega) (by omega) rfl) (Or.inl ⟨rfl, h13, hl, rfl⟩)
          | exact hq 0 _ _ (by omega) (f1.up (by omega)) (e1.go (q := sk T L p) (by omega) (e1.2.2.1) rfl) (Or.inr ⟨rfl, h13, rfl⟩)
      · refine r_iconst iX10_takes_31 ?_
        refine r_goto iX10_takes_32 ?_
        refine r_iadd iX10_takes_36 ?_
        refine pf_X10_at kFX10_86 iX10_takes_37 ?_
        refine ld_i2 iX10_takes_40 ?_
        refine t_bool rfl (by omega) iX10_takes_41 ?_
        first
          | (exfalso; omega)
          | exact hq 1 _ _ (by omega) (f1.up (by omega)) (e1.go (q := sk T L p + 1) (by omega) (by omega) rfl) (Or.inl ⟨rfl, h13, hl, rfl⟩)
          | exact hq 0 _ _ (by omega) (f1.up (by omega)) (e1.go (q := sk T L p) (by omega) (e1.2.2.1) rfl) (Or.inr ⟨rfl, h13, rfl⟩)
theorem c_mTakes0 {c : Int} {Pq : Int → Nm → Ge → Prop} (hR : Me N T L p w) (hw : w ≠ -1) (hq : ∀ N', FrM N N' → Me N' T L p w → Pq 0 N' g) : Ck K YX10_takes hX10_takes [vr 40 0, vi c] N g (qI Pq) := by
  have r3 := hR.2.2.2.1
  have r4 := hR.2.2.2.2
  refine Ck.intro 1 (by decide) rfl ?_
  show AW _ _ _ _ _ [some (vr 40 0), some (vi c), none] _ _ _
  refine ld_a0 iX10_takes_0 ?_
  refine gf_X10_wrong kFX10_93 iX10_takes_1 ?_
  rw [r3]
  refine r_iconst iX10_takes_4 ?_
  refine r_icmpne iX10_takes_5 (by omega) (by omega) (fun h5 => ?_) (fun h5 => ?_)
  · refine r_iconst iX10_takes_20 ?_
    refine sv_i2 (by decide) rfl iX10_takes_21 ?_
    refine ld_a0 iX10_takes_22 ?_
    refine r_dup rfl iX10_takes_23 ?_
    refine gf_X10_at kFX10_86 iX10_takes_24 ?_
    rw [hR.2.1]
    refine ld_i2 iX10_takes_27 ?_
    refine r_ifeq iX10_takes_28 (by omega) (fun h28 => ?_) (fun h28 => ?_)
    · refine r_iconst iX10_takes_35 ?_
      refine r_iadd iX10_takes_36 ?_
      refine pf_X10_at kFX10_86 iX10_takes_37 ?_
      refine ld_i2 iX10_takes_40 ?_
      refine t_bool rfl (by omega) iX10_takes_41 ?_
      exact hq _ ((FrM.rf N).up (by omega)) (hR.go (by omega) hR.2.2.1 rfl)
    · exfalso; omega
  · exfalso; omega
theorem c_mDigit {c : Int} {Pq : Int → Nm → Ge → Prop} (hc : -1 ≤ c ∧ c ≤ 255) (hk : Pq (tf (48 ≤ c ∧ c ≤ 57)) N g) : Ck K YX10_isDigit hX10_isDigit [vi c] N g (qI Pq) := by
  refine Ck.intro 0 (by decide) rfl ?_
  show AW _ _ _ _ _ [some (vi c)] _ _ _
  have tl : ∀ z : Int, z = tf (48 ≤ c ∧ c ≤ 57) → AW K YX10_isDigit hX10_isDigit (qI Pq) 17 [some (vi c)] [vi z] N g := by
    intro z hz
    rw [← hz] at hk
    have hz2 : z = 0 ∨ z = 1 := by rw [hz]; exact tf_b _
    refine t_bool rfl (by omega) iX10_isDigit_17 ?_
    exact hk
  refine ld_i0 iX10_isDigit_0 ?_
  refine r_bipush (by decide) iX10_isDigit_1 ?_
  refine r_icmplt iX10_isDigit_3 (by omega) (by omega) (fun h3 => ?_) (fun h3 => ?_)
  · refine r_iconst iX10_isDigit_16 ?_
    refine tl _ ?_
    unfold tf
    first
      | rw [if_pos (by omega)]
      | rw [if_neg (by omega)]
  · refine ld_i0 iX10_isDigit_6 ?_
    refine r_bipush (by decide) iX10_isDigit_7 ?_
    refine r_icmpgt iX10_isDigit_9 (by omega) (by omega) (fun h9 => ?_) (fun h9 => ?_)
    · refine r_iconst iX10_isDigit_16 ?_
      refine tl _ ?_
      unfold tf
      first
        | rw [if_pos (by omega)]
        | rw [if_neg (by omega)]
    · refine r_iconst iX10_isDigit_12 ?_
      refine r_goto iX10_isDigit_13 ?_
      refine tl _ ?_
      unfold tf
      first
        | rw [if_pos (by omega)]
        | rw [if_neg (by omega)]
theorem c_mNumber0 {lo hi : Int} {Pq : Int → Nm → Ge → Prop} (hR : Me N T L p w) (hw : w ≠ -1) (hq : ∀ N', FrM N N' → Me N' T L p w → Pq lo N' g) : Ck K YX10_number hX10_number [vr 40 0, vi lo, vi hi] N g (qI Pq) := by
  have r3 := hR.2.2.2.1
  have r4 := hR.2.2.2.2
  refine Ck.intro 2 (by decide) rfl ?_
  show AW _ _ _ _ _ [some (vr 40 0), some (vi lo), some (vi hi), none, none] _ _ _
  refine ld_a0 iX10_number_0 ?_
  refine gf_X10_wrong kFX10_93 iX10_number_1 ?_
  rw [r3]
  refine r_iconst iX10_number_4 ?_
  refine r_icmpne iX10_number_5 (by omega) (by omega) (fun h5 => ?_) (fun h5 => ?_)
  · refine ld_a0 iX10_number_18 ?_
    refine xX10_bad kMX10_103 iX10_number_19 (by decide) (Nat.le_of_ble_eq_true rfl) rfl rfl ?_
    refine c_mBad0 hR hw (fun N2 f2 e2 => ?_)
    refine ld_i1 iX10_number_22 ?_
    refine t_int rfl iX10_number_23 ?_
    exact hq N2 f2 e2
  · exfalso; omega
end MRead9
