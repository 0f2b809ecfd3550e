/-! own text: the class reads segments -/
/-- the account a of the Rules r has these m segments -/
def RowS (N : Nm) (r a m : Nat) (F E S : Nat → Int) : Prop := N 27 r a = m ∧ ∀ q, q < m → N 29 (6 * r + a) q = F q ∧ N 31 (6 * r + a) q = E q ∧ N 33 (6 * r + a) q = S q
def FrSg (r a : Nat) (N N' : Nm) : Prop := ∀ k i j, ¬ (k = 1 ∧ (j = 2 ∨ j = 3)) → ¬ (k = 27 ∧ i = r ∧ j = a) → ¬ ((k = 29 ∨ k = 31 ∨ k = 33) ∧ i = 6 * r + a) → N' k i j = N k i j
theorem FrSg.rf (r a : Nat) (N : Nm) : FrSg r a N N := fun _ _ _ _ _ _ => rfl
theorem FrSg.tr {r a : Nat} {A B C : Nm} (h1 : FrSg r a A B) (h2 : FrSg r a B C) : FrSg r a A C := fun k i j q z y => (h2 k i j q z y).trans (h1 k i j q z y)
theorem FrC.s {A B : Nm} (h : FrC A B) (r a : Nat) : FrSg r a A B := fun k i j q _ _ => h k i j q
theorem RowS.of {N N' : Nm} {r a m : Nat} {F E S : Nat → Int} (h : RowS N r a m F E S) (f : ∀ k i j, 26 ≤ k → k ≤ 33 → N' k i j = N k i j) : RowS N' r a m F E S := ⟨by rw [f 27 _ _ (by omega) (by omega)]; exact h.1, fun j hj => by rw [f 29 _ _ (by omega) (by omega), f 31 _ _ (by omega) (by omega), f 33 _ _ (by omega) (by omega)]; exact h.2 j hj⟩
theorem RowS.c {N N' : Nm} {r a m : Nat} {F E S : Nat → Int} (h : RowS N r a m F E S) (f : FrC N N') : RowS N' r a m F E S := h.of (fun k i j z1 z2 => f k i j (by omega))
theorem SgI.r {m : Nat} {F E S : Nat → Int} {lo hi : Int} (h : SgI m F E S lo hi) : (0 ≤ lo ∧ lo ≤ 10000) ∧ (0 ≤ hi ∧ hi ≤ 9999) := by
  obtain ⟨h1, h2, h3, h4⟩ := h
  rcases Nat.eq_zero_or_pos m with z | z
  · have := h1 z; omega
  · have := h2 z; have := (h4 (m - 1) (by omega)).1; omega
section Read7
variable {K : Kx} {N : Nm} {g : Ge} {T : Nat → Int} {L p r a m : Nat} {F E S : Nat → Int}
theorem c_addSegment {x y w : Int} {Pq : Nm → Ge → Prop} (ha : a < 6) (hm : m < 6) (hS : RowS N r a m F E S) (hq : ∀ N', FrSg r a N N' → (∀ k i j, k < 3 → N' k i j = N k i j) → RowS N' r a (m + 1) (upf F m x) (upf E m y) (upf S m w) → Pq N' g) : Ck K YX5_addSegment hX5_addSegment [vr 20 r, vi a, vi x, vi y, vi w] N g (qV Pq) := by
  obtain ⟨t1, t2⟩ := id hS
  refine Ck.intro 1 (by decide) rfl ?_
  show AW _ _ _ _ _ [some (vr 20 r), some (vi a), some (vi x), some (vi y), some (vi w), none] _ _ _
  refine ld_a0 iX5_addSegment_0 ?_
  refine gf_X5_segmentCounts kFX5_33 iX5_addSegment_1 ?_
  refine ld_i1 iX5_addSegment_4 ?_
  refine al_27 rfl (by omega) iX5_addSegment_5 ?_
  rw [t1]
  refine sv_i5 (by decide) rfl iX5_addSegment_6 ?_
  refine ld_a0 iX5_addSegment_8 ?_
  refine gf_X5_froms kFX5_36 iX5_addSegment_9 ?_
  refine ld_i1 iX5_addSegment_12 ?_
  refine al_28 rfl (by omega) iX5_addSegment_13 ?_
  refine ld_i5 iX5_addSegment_14 ?_
  refine ld_i2 iX5_addSegment_16 ?_
  refine as_29 rfl (by omega) iX5_addSegment_17 ?_
  refine ld_a0 iX5_addSegment_18 ?_
  refine gf_X5_ats kFX5_39 iX5_addSegment_19 ?_
  refine ld_i1 iX5_addSegment_22 ?_
  refine al_30 rfl (by omega) iX5_addSegment_23 ?_
  refine ld_i5 iX5_addSegment_24 ?_
  refine ld_i3 iX5_addSegment_26 ?_
  refine as_31 rfl (by omega) iX5_addSegment_27 ?_
  refine ld_a0 iX5_addSegment_28 ?_
  refine gf_X5_slopes kFX5_42 iX5_addSegment_29 ?_
  refine ld_i1 iX5_addSegment_32 ?_
  refine al_32 rfl (by omega) iX5_addSegment_33 ?_
  refine ld_i5 iX5_addSegment_34 ?_
  refine ld_i4 iX5_addSegment_36 ?_
  refine as_33 rfl (by omega) iX5_addSegment_38 ?_
  refine ld_a0 iX5_addSegment_39 ?_
  refine gf_X5_segmentCounts kFX5_33 iX5_addSegment_40 ?_
  refine ld_i1 iX5_addSegment_43 ?_
  refine r_dup2 rfl rfl iX5_addSegment_44 ?_
  refine al_27 rfl (by omega) iX5_addSegment_45 ?_
  rw [upN_k (by decide), upN_k (by decide), upN_k (by decide), t1]
  refine r_iconst iX5_addSegment_46 ?_
  refine r_iadd iX5_addSegment_47 ?_
  refine as_27 rfl (by omega) iX5_addSegment_48 ?_
  refine t_void rfl iX5_addSegment_49 ?_
  refine hq _ (fun k i j z1 z2 z3 => ?_) (fun k i j z => ?_) ⟨upN_eq _ _ _ _ _, fun j hj => ?_⟩
  · rw [show ∀ A v, upN A 27 r a v k i j = A k i j from fun A v => if_neg (fun y => z2 y), show ∀ A v, upN A 33 (6 * r + a) m v k i j = A k i j from fun A v => if_neg (fun y => z3 ⟨by omega, y.2.1⟩), show ∀ A v, upN A 31 (6 * r + a) m v k i j = A k i j from fun A v => if_neg (fun y => z3 ⟨by omega, y.2.1⟩), show ∀ A v, upN A 29 (6 * r + a) m v k i j = A k i j from fun A v => if_neg (fun y => z3 ⟨by omega, y.2.1⟩)]
  · rw [upN_k (by omega), upN_k (by omega), upN_k (by omega), upN_k (by omega)]
  · by_cases e : j = m
    · subst e; simp [upN, upf]
    · have := t2 j (by omega); simp [upN, upf, e]; exact this
theorem c_readSegment {lo hi : Int} {Pq : Int → Nm → Ge → Prop} (ha : a < 6) (hm : m < 6) (hl : 0 ≤ lo ∧ lo ≤ 20000) (hh : 0 ≤ hi ∧ hi ≤ 20000) (hR : Rd N T L p) (hS : RowS N r a m F E S) (hq : ∀ z N', (z = 0 ∨ z = 1) → FrSg r a N N' → Imp (z = 1) (∃ p' x y w, pSg T L p lo hi = .inr (p', x, y, w) ∧ Rd N' T L p' ∧ RowS N' r a (m + 1) (upf F m x) (upf E m y) (upf S m w)) → Imp (z = 0) (∃ w : Nat, pSg T L p lo hi = .inl w ∧ N' 1 0 3 = (w : Int)) → Pq z N' g) : Ck K YX4_readSegment hX4_readSegment [vr 1 0, vr 20 r, vi a, vi lo, vi hi] N g (qI Pq) := by
  refine Ck.intro 3 (by decide) rfl ?_
  show AW _ _ _ _ _ [some (vr 1 0), some (vr 20 r), some (vi a), some (vi lo), some (vi hi), none, none, none] _ _ _
  refine ld_a0 iX4_readSegment_0 ?_
  refine ld_i3 iX4_readSegment_1 ?_
  refine ld_i4 iX4_readSegment_2 ?_
  refine xX4_readNumber kMX4_59 iX4_readSegment_4 (by decide) (Nat.le_of_ble_eq_true rfl) rfl rfl ?_
  refine c_readNumber hl hh hR (fun z1 N1 hz1 f1 a0 a1 => ?_)
  refine sv_i5 (by decide) rfl iX4_readSegment_7 ?_
  refine ld_i5 iX4_readSegment_9 ?_
  refine r_iconst iX4_readSegment_11 ?_
  refine r_icmpeq iX4_readSegment_12 (by omega) (by omega) (fun h12 => ?_) (fun h12 => ?_)
  · refine r_iconst iX4_readSegment_24 ?_
    refine t_bool rfl (by omega) iX4_readSegment_25 ?_
    first
      | (obtain ⟨w, hw, h3⟩ := a0 h12
         exact hq 0 N1 (by omega) (f1.s r a) (fun z => by omega) (fun _ => ⟨w, by unfold pSg; rw [hw], h3⟩))
      | (obtain ⟨n1, h3⟩ := b0 h21
         exact hq 0 N2 (by omega) ((f1.tr f2).s r a) (fun z => by omega) (fun _ => ⟨_, by unfold pSg; rw [hp1]; simp only; rw [if_neg n1], h3⟩))
  · obtain ⟨p1, hp1, e1⟩ := a1 h12
    refine ld_a0 iX4_readSegment_15 ?_
    refine r_bipush (by decide) iX4_readSegment_16 ?_
    refine xX4_take kMX4_56 iX4_readSegment_18 (by decide) (Nat.le_of_ble_eq_true rfl) rfl rfl ?_
    refine c_take (by omega) e1 (fun z2 N2 hz2 f2 b1 b0 => ?_)
    refine r_ifne iX4_readSegment_21 (by omega) (fun h21 => ?_) (fun h21 => ?_)
    · obtain ⟨n1, l1, e2⟩ := b1 (by omega)
      refine ld_a0 iX4_readSegment_26 ?_
      refine r_iconst iX4_readSegment_27 ?_
      refine r_sipush (by decide) iX4_readSegment_28 ?_
      refine xX4_readNumber kMX4_59 iX4_readSegment_31 (by decide) (Nat.le_of_ble_eq_true rfl) rfl rfl ?_
      refine c_readNumber (by omega) (by omega) e2 (fun z3 N3 hz3 f3 a0 a1 => ?_)
      refine sv_i6 (by decide) rfl iX4_readSegment_34 ?_
      refine ld_i6 iX4_readSegment_36 ?_
      refine r_iconst iX4_readSegment_38 ?_
      refine r_icmpne iX4_readSegment_39 (by omega) (by omega) (fun h39 => ?_) (fun h39 => ?_)
      · obtain ⟨p3, hp3, e3⟩ := a1 h39
        refine ld_a0 iX4_readSegment_44 ?_
        refine xX4_look kMX4_34 iX4_readSegment_45 (by decide) (Nat.le_of_ble_eq_true rfl) rfl rfl ?_
        refine c_look e3 (fun N4 f4 e4 => ?_)
        have hb := tat_r e4.1 (sk T L p3)
        have f04 := ((f1.tr f2).tr f3).tr f4
        refine r_bipush (by decide) iX4_readSegment_48 ?_
        refine r_icmpeq iX4_readSegment_50 (by omega) (by omega) (fun h50 => ?_) (fun h50 => ?_)
        · have hlt := tat_in (T := T) (L := L) (p := sk T L p3) (by omega)
          refine ld_a0 iX4_readSegment_88 ?_
          refine r_dup rfl iX4_readSegment_89 ?_
          refine gf_X4_place kFX4_19 iX4_readSegment_90 ?_
          rw [e4.2.1]
          refine r_iconst iX4_readSegment_93 ?_
          refine r_iadd iX4_readSegment_94 ?_
          refine pf_X4_place kFX4_19 iX4_readSegment_95 ?_
          refine ld_a0 iX4_readSegment_98 ?_
          refine r_iconst iX4_readSegment_99 ?_
          refine r_sipush (by decide) iX4_readSegment_100 ?_
          refine xX4_readNumber kMX4_59 iX4_readSegment_103 (by decide) (Nat.le_of_ble_eq_true rfl) rfl rfl ?_
          refine c_readNumber (p := sk T L p3 + 1) (by omega) (by omega) (e4.go (by omega) (by omega) rfl) (fun z5 N5 hz5 f5 a0 a1 => ?_)
          have f05 := f04.tr (((FrC.rf N4).up (i := 0) (v := ((sk T L p3 : Nat) : Int) + 1) (Or.inl rfl)).tr f5)
          refine sv_i7 (by decide) rfl iX4_readSegment_106 ?_
          refine ld_i7 iX4_readSegment_108 ?_
          refine r_iconst iX4_readSegment_110 ?_
          refine r_icmpne iX4_readSegment_111 (by omega) (by omega) (fun h111 => ?_) (fun h111 => ?_)
          · obtain ⟨p5, hp5, e5⟩ := a1 h111
            refine ld_a1 iX4_readSegment_116 ?_
            refine ld_i2 iX4_readSegment_117 ?_
            refine ld_i5 iX4_readSegment_118 ?_
            refine ld_i6 iX4_readSegment_120 ?_
            refine ld_i7 iX4_readSegment_122 ?_
            refine xX5_addSegment kMX4_99 iX4_readSegment_124 (by decide) (Nat.le_of_ble_eq_true rfl) rfl rfl ?_
            refine c_addSegment ha hm (hS.c f05) (fun N6 f6 g6 e6 => ?_)
            refine r_iconst iX4_readSegment_127 ?_
            refine t_bool rfl (by omega) iX4_readSegment_128 ?_
            exact hq 1 N6 (by omega) ((f05.s r a).tr f6) (fun _ => ⟨_, _, _, _, by unfold pSg; rw [hp1]; simp only; rw [if_pos n1, hp3]; simp only; rw [if_pos h50, hp5], e5.t (r := r) (a := a) g6, e6⟩) (fun z => by omega)
          · refine r_iconst iX4_readSegment_114 ?_
            refine t_bool rfl (by omega) iX4_readSegment_115 ?_
            obtain ⟨w, hw, h3⟩ := a0 h111
            exact hq 0 N5 (by omega) (f05.s r a) (fun z => by omega) (fun _ => ⟨w, by unfold pSg; rw [hp1]; simp only; rw [if_pos n1, hp3]; simp only; rw [if_pos h50, hw], h3⟩)
        · refine ld_a1 iX4_readSegment_53 ?_
          refine ld_i2 iX4_readSegment_54 ?_
          refine ld_i5 iX4_readSegment_55 ?_
          refine r_iconst iX4_readSegment_57 ?_
          refine ld_i6 iX4_readSegment_58 ?_
          refine xX5_addSegment kMX4_99 iX4_readSegment_60 (by decide) (Nat.le_of_ble_eq_true rfl) rfl rfl ?_
          refine c_addSegment ha hm (hS.c f04) (fun N5 f5 g5 e5 => ?_)
          have e4' := e4.t (r := r) (a := a) g5
          refine ld_i6 iX4_readSegment_63 ?_
          refine r_sipush (by decide) iX4_readSegment_65 ?_
          refine r_icmple iX4_readSegment_68 (by omega) (by omega) (fun h68 => ?_) (fun h68 => ?_)
          · refine r_iconst iX4_readSegment_82 ?_
            refine r_goto iX4_readSegment_83 ?_
            refine t_bool rfl (by omega) iX4_readSegment_87 ?_
            first
              | exact hq 1 N5 (by omega) ((f04.s r a).tr f5) (fun _ => ⟨_, _, _, _, by unfold pSg; rw [hp1]; simp only; rw [if_pos n1, hp3]; simp only; rw [if_neg h50, if_pos (by omega)], e4', e5⟩) (fun z => by omega)
              | exact hq 0 _ (by omega) (((f04.s r a).tr f5).tr (((FrC.rf N5).up (by omega)).s r a)) (fun z => by omega) (fun _ => ⟨_, by unfold pSg; rw [hp1]; simp only; rw [if_pos n1, hp3]; simp only; rw [if_neg h50, if_neg (by omega)], upN_eq _ _ _ _ _⟩)
          · refine ld_a0 iX4_readSegment_71 ?_
            refine ld_a0 iX4_readSegment_72 ?_
            refine gf_X4_place kFX4_19 iX4_readSegment_73 ?_
            rw [e4'.2.1]
            refine xX4_fail kMX4_52 iX4_readSegment_76 (by decide) (Nat.le_of_ble_eq_true rfl) rfl rfl ?_
            refine c_fail ?_
            refine r_ifeq iX4_readSegment_79 (by omega) (fun h79 => ?_) (fun h79 => ?_)
            · refine r_iconst iX4_readSegment_86 ?_
              refine t_bool rfl (by omega) iX4_readSegment_87 ?_
              first
                | exact hq 1 N5 (by omega) ((f04.s r a).tr f5) (fun _ => ⟨_, _, _, _, by unfold pSg; rw [hp1]; simp only; rw [if_pos n1, hp3]; simp only; rw [if_neg h50, if_pos (by omega)], e4', e5⟩) (fun z => by omega)
                | exact hq 0 _ (by omega) (((f04.s r a).tr f5).tr (((FrC.rf N5).up (by omega)).s r a)) (fun z => by omega) (fun _ => ⟨_, by unfold pSg; rw [hp1]; simp only; rw [if_pos n1, hp3]; simp only; rw [if_neg h50, if_neg (by omega)], upN_eq _ _ _ _ _⟩)
            · exfalso; omega
      · refine r_iconst iX4_readSegment_42 ?_
        refine t_bool rfl (by omega) iX4_readSegment_43 ?_
        obtain ⟨w, hw, h3⟩ := a0 h39
        exact hq 0 N3 (by omega) (((f1.tr f2).tr f3).s r a) (fun z => by omega) (fun _ => ⟨w, by unfold pSg; rw [hp1]; simp only; rw [if_pos n1, hw], h3⟩)
    · refine r_iconst iX4_readSegment_24 ?_
      refine t_bool rfl (by omega) iX4_readSegment_25 ?_
      first
        | (obtain ⟨w, hw, h3⟩ := a0 h12
           exact hq 0 N1 (by omega) (f1.s r a) (fun z => by omega) (fun _ => ⟨w, by unfold pSg; rw [hw], h3⟩))
        | (obtain ⟨n1, h3⟩ := b0 h21
           exact hq 0 N2 (by omega) ((f1.tr f2).s r a) (fun z => by omega) (fun _ => ⟨_, by unfold pSg; rw [hp1]; simp only; rw [if_neg n1], h3⟩))
theorem c_readSegments {Pq : Int → Nm → Ge → Prop} (ha : a < 6) (hR : Rd N T L p) (h27 : N 27 r a = 0) (hq : ∀ z N', (z = 0 ∨ z = 1) → FrSg r a N N' → Imp (z = 1) (∃ p' m F E S, pSgs T L 6 p 0 0 0 (fun _ => 0) (fun _ => 0) (fun _ => 0) = .inr (p', m, F, E, S) ∧ Rd N' T L p' ∧ RowS N' r a m F E S) → Imp (z = 0) (∃ w : Nat, pSgs T L 6 p 0 0 0 (fun _ => 0) (fun _ => 0) (fun _ => 0) = .inl w ∧ N' 1 0 3 = (w : Int)) → Pq z N' g) : Ck K YX4_readSegments hX4_readSegments [vr 1 0, vr 20 r, vi a] N g (qI Pq) := by
  generalize hP : pSgs T L 6 p 0 0 0 (fun _ => 0) (fun _ => 0) (fun _ => 0) = P at hq
  refine Ck.intro 3 (by decide) rfl ?_
  show AW _ _ _ _ _ [some (vr 1 0), some (vr 20 r), some (vi a), none, none, none] _ _ _
  have loop : ∀ (f m u : Nat) (lo hi c : Int) (F E S : Nat → Int) (N' : Nm), m + f = 6 → c = m → SgI m F E S lo hi → FrSg r a N N' → Rd N' T L u → RowS N' r a m F E S → pSgs T L f u m lo hi F E S = P → AW K YX4_readSegments hX4_readSegments (qI Pq) 8 [some (vr 1 0), some (vr 20 r), some (vi a), some (vi lo), some (vi hi), some (vi c)] [] N' g := by
    intro f
    induction f with
    | zero =>
      intro m u lo hi c F E S N' hm hc hI hF hR' hS hp
      subst hc
      rw [pSgs] at hp
      refine ld_i5 iX4_readSegments_8 ?_
      refine r_bipush (by decide) iX4_readSegments_10 ?_
      refine r_icmpge iX4_readSegments_12 (by omega) (by omega) (fun h12 => ?_) (fun h12 => ?_)
      · refine ld_a0 iX4_readSegments_72 ?_
        refine ld_a0 iX4_readSegments_73 ?_
        refine gf_X4_place kFX4_19 iX4_readSegments_74 ?_
        rw [hR'.2.1]
        refine xX4_fail kMX4_52 iX4_readSegments_77 (by decide) (Nat.le_of_ble_eq_true rfl) rfl rfl ?_
        refine c_fail ?_
        refine t_bool rfl (by omega) iX4_readSegments_80 ?_
        exact hq 0 _ (by omega) (hF.tr (((FrC.rf N').up (by omega)).s r a)) (fun z => by omega) (fun _ => ⟨_, hp.symm, upN_eq _ _ _ _ _⟩)
      · exfalso; omega
    | succ f ih =>
      intro m u lo hi c F E S N' hm hc hI hF hR' hS hp
      subst hc
      rw [pSgs] at hp
      have hlh := hI.r
      refine ld_i5 iX4_readSegments_8 ?_
      refine r_bipush (by decide) iX4_readSegments_10 ?_
      refine r_icmpge iX4_readSegments_12 (by omega) (by omega) (fun h12 => ?_) (fun h12 => ?_)
      · exfalso; omega
      · refine ld_a0 iX4_readSegments_15 ?_
        refine r_bipush (by decide) iX4_readSegments_16 ?_
        refine xX4_take kMX4_56 iX4_readSegments_18 (by decide) (Nat.le_of_ble_eq_true rfl) rfl rfl ?_
        refine c_take (by omega) hR' (fun z1 N1 hz1 f1 b1 b0 => ?_)
        refine r_ifeq iX4_readSegments_21 (by omega) (fun h21 => ?_) (fun h21 => ?_)
        · refine r_iconst iX4_readSegments_36 ?_
          refine t_bool rfl (by omega) iX4_readSegments_37 ?_
          first
            | (obtain ⟨n1, h3⟩ := b0 h21
               rw [if_neg n1] at hp
               exact hq 0 N1 (by omega) (hF.tr (f1.s r a)) (fun z => by omega) (fun _ => ⟨_, hp.symm, h3⟩))
            | (obtain ⟨w, hw, h3⟩ := a0 h33
               rw [hw] at hp
               exact hq 0 N2 (by omega) ((hF.tr (f1.s r a)).tr f2) (fun z => by omega) (fun _ => ⟨w, hp.symm, h3⟩))
        · obtain ⟨n1, l1, e1⟩ := b1 (by omega)
          rw [if_pos n1] at hp
          refine ld_a0 iX4_readSegments_24 ?_
          refine ld_a1 iX4_readSegments_25 ?_
          refine ld_i2 iX4_readSegments_26 ?_
          refine ld_i3 iX4_readSegments_27 ?_
          refine ld_i4 iX4_readSegments_28 ?_
          refine xX4_readSegment kMX4_91 iX4_readSegments_30 (by decide) (Nat.le_of_ble_eq_true rfl) rfl rfl ?_
          refine c_readSegment ha (by omega) (by omega) (by omega) e1 (hS.c f1) (fun z2 N2 hz2 f2 a1 a0 => ?_)
          refine r_ifne iX4_readSegments_33 (by omega) (fun h33 => ?_) (fun h33 => ?_)
          · obtain ⟨p2, x, y, w, hp2, e2, e3⟩ := a1 (by omega)
            have ox := pSg_ok (by omega) hp2
            rw [hp2] at hp
            simp only at hp
            refine ld_a1 iX4_readSegments_38 ?_
            refine gf_X5_froms kFX4_95 iX4_readSegments_39 ?_
            refine ld_i2 iX4_readSegments_42 ?_
            refine al_28 rfl (by omega) iX4_readSegments_43 ?_
            refine ld_i5 iX4_readSegments_44 ?_
            refine al_29 rfl (by omega) iX4_readSegments_46 ?_
            rw [(e3.2 m (by omega)).1, upf_eq]
            refine r_iconst iX4_readSegments_47 ?_
            refine r_iadd iX4_readSegments_48 ?_
            refine sv_i3 (by decide) rfl iX4_readSegments_49 ?_
            refine r_sipush (by decide) iX4_readSegments_50 ?_
            refine sv_i4 (by decide) rfl iX4_readSegments_53 ?_
            refine ld_a0 iX4_readSegments_55 ?_
            refine xX4_look kMX4_34 iX4_readSegments_56 (by decide) (Nat.le_of_ble_eq_true rfl) rfl rfl ?_
            refine c_look e2 (fun N3 f3 e4 => ?_)
            have hb := tat_r e4.1 (sk T L p2)
            have hF3 := ((hF.tr (f1.s r a)).tr f2).tr (f3.s r a)
            refine r_bipush (by decide) iX4_readSegments_59 ?_
            refine r_icmpeq iX4_readSegments_61 (by omega) (by omega) (fun h61 => ?_) (fun h61 => ?_)
            · rw [if_pos h61] at hp
              refine inc_5 (by decide) rfl iX4_readSegments_66 ?_
              refine r_goto iX4_readSegments_69 ?_
              exact ih (m + 1) _ _ _ _ _ _ _ N3 (by omega) (by omega) (hI.up ox.2.1 ox.2.2.1 ox.2.2.2) hF3 e4 (e3.c f3) hp
            · refine r_iconst iX4_readSegments_64 ?_
              refine t_bool rfl (by omega) iX4_readSegments_65 ?_
              rw [if_neg h61] at hp
              exact hq 1 N3 (by omega) hF3 (fun _ => ⟨_, _, _, _, _, hp.symm, e4, e3.c f3⟩) (fun z => by omega)
          · refine r_iconst iX4_readSegments_36 ?_
            refine t_bool rfl (by omega) iX4_readSegments_37 ?_
            first
              | (obtain ⟨n1, h3⟩ := b0 h21
                 rw [if_neg n1] at hp
                 exact hq 0 N1 (by omega) (hF.tr (f1.s r a)) (fun z => by omega) (fun _ => ⟨_, hp.symm, h3⟩))
              | (obtain ⟨w, hw, h3⟩ := a0 h33
                 rw [hw] at hp
                 exact hq 0 N2 (by omega) ((hF.tr (f1.s r a)).tr f2) (fun z => by omega) (fun _ => ⟨w, hp.symm, h3⟩))
  refine r_iconst iX4_readSegments_0 ?_
  refine sv_i3 (by decide) rfl iX4_readSegments_1 ?_
  refine r_iconst iX4_readSegments_2 ?_
  refine sv_i4 (by decide) rfl iX4_readSegments_3 ?_
  refine r_iconst iX4_readSegments_5 ?_
  refine sv_i5 (by decide) rfl iX4_readSegments_6 ?_
  exact loop 6 0 p _ _ _ _ _ _ N (by omega) (by omega) (SgI0 _ _ _) (FrSg.rf r a N) hR ⟨h27, fun q hq => by omega⟩ hP
end Read7
