/-! own text: the reference's spell -/
theorem txt_len {d : Dk} (hW : WD d) {r : Nat} (hr : r < dA d ∨ r = 6) : (txt d r).length ≤ 104 := by
  have hA := hW.1
  have t6 : dT d r ≤ 6 := by
    rcases hr with q | q
    · exact (hW.2.2.1 r q).2.1.2.1
    · rw [q]; exact hW.2.2.2.2.1
  have t := tm_len d r (dT d r)
  unfold txt
  by_cases e : r = 6
  · rw [if_pos e, if_pos e]; simp; omega
  · have s6 := (hW.2.2.1 r (by omega)).1.2.1
    have s := sg_len d r (dS d r)
    rw [if_neg e, if_neg e]; simp; omega
section Spell3
variable {K : Kx} {N : Nm} {g : Ge} {d : Dk}
theorem c_spells {a : Int} {Pq : Nm → Ge → Prop} (hM : MoI N d) (hW : WD d) (ha : -1 ≤ a ∧ a < dA d) (hq : ∀ N', FrS N N' → SpM N' (txt d (rwo a)) → Pq N' g) : Ck K YX10_spells hX10_spells [vr 40 0, vi a] N g (qV Pq) := by
  have hA := hW.1
  refine Ck.intro 1 (by decide) rfl ?_
  show AW _ _ _ _ _ [some (vr 40 0), some (vi a), none] _ _ _
  have mo : ∀ N2, FrS N N2 → MoI N2 d := fun N2 f => hM.of (f 40 0 19 (by omega) (by omega)) (fun k j q1 q2 => f k 0 j (by omega) (by omega))
  have f0 : FrS N (upN N 40 0 33 0) := fun k i j z1 z2 => if_neg (fun y => by omega)
  have s0 : SpM (upN N 40 0 33 0) [] := ⟨by rw [upN_eq]; rfl, fun j hj => by simp at hj⟩
  by_cases e : a = -1
  · subst e
    have hl6 := hW.2.2.2.2.1
    have e6 : rwo (-1) = 6 := rfl
    rw [e6] at hq
    refine ld_a0 iX10_spells_0 ?_
    refine r_iconst iX10_spells_1 ?_
    refine pf_X10_speltMany kFX10_324 iX10_spells_2 ?_
    refine ld_a0 iX10_spells_5 ?_
    refine ld_i1 iX10_spells_6 ?_
    refine r_iconst iX10_spells_7 ?_
    refine r_icmpne iX10_spells_8 (by omega) (by omega) (fun h8 => ?_) (fun h8 => ?_)
    · exfalso; omega
    · refine r_bipush (by decide) iX10_spells_11 ?_
      refine r_goto iX10_spells_13 ?_
      refine xX10_says kMX10_327 iX10_spells_20 (by decide) (Nat.le_of_ble_eq_true rfl) rfl rfl ?_
      refine c_says s0 (by simp) (fun N2 e1 e2 => ?_)
      refine ld_a0 iX10_spells_23 ?_
      refine r_bipush (by decide) iX10_spells_24 ?_
      refine xX10_says kMX10_327 iX10_spells_26 (by decide) (Nat.le_of_ble_eq_true rfl) rfl rfl ?_
      refine c_says e2 (by simp) (fun N3 e3 e4 => ?_)
      have f3 := (f0.tr e1).tr e3
      refine ld_a0 iX10_spells_29 ?_
      refine ld_i1 iX10_spells_30 ?_
      refine r_iconst iX10_spells_31 ?_
      refine r_icmpne iX10_spells_32 (by omega) (by omega) (fun h32 => ?_) (fun h32 => ?_)
      · exfalso; omega
      · refine r_bipush (by decide) iX10_spells_35 ?_
        refine r_goto iX10_spells_37 ?_
        refine xX10_saysSum kMX10_330 iX10_spells_41 (by decide) (Nat.le_of_ble_eq_true rfl) rfl rfl ?_
        refine c_saysSum (a := 6) (mo N3 f3) hW (Or.inr rfl) e4 (by simp) (fun N4 e5 e6 => ?_)
        refine r_iconst iX10_spells_44 ?_
        refine sv_i2 (by decide) rfl iX10_spells_45 ?_
        refine ld_i1 iX10_spells_46 ?_
        refine r_iconst iX10_spells_47 ?_
        refine r_icmpeq iX10_spells_48 (by omega) (by omega) (fun h48 => ?_) (fun h48 => ?_)
        · refine t_void rfl iX10_spells_129 ?_
          exact hq N4 (f3.tr e5) (by unfold txt; rw [if_pos rfl, if_pos rfl]; simpa using e6)
        · exfalso; omega
  · obtain ⟨A, hA1⟩ : ∃ A : Nat, a = A := ⟨a.toNat, by omega⟩
    subst hA1
    have er : rwo (A : Int) = A := by unfold rwo; rw [if_neg e]; rfl
    rw [er] at hq
    have hT6 := (hW.2.2.1 A (by omega)).2.1.2.1
    have tl := tm_len d A (dT d A)
    refine ld_a0 iX10_spells_0 ?_
    refine r_iconst iX10_spells_1 ?_
    refine pf_X10_speltMany kFX10_324 iX10_spells_2 ?_
    refine ld_a0 iX10_spells_5 ?_
    refine ld_i1 iX10_spells_6 ?_
    refine r_iconst iX10_spells_7 ?_
    refine r_icmpne iX10_spells_8 (by omega) (by omega) (fun h8 => ?_) (fun h8 => ?_)
    · refine r_bipush (by decide) iX10_spells_16 ?_
      refine ld_i1 iX10_spells_18 ?_
      refine r_iadd iX10_spells_19 ?_
      refine xX10_says kMX10_327 iX10_spells_20 (by decide) (Nat.le_of_ble_eq_true rfl) rfl rfl ?_
      refine c_says s0 (by simp) (fun N2 e1 e2 => ?_)
      refine ld_a0 iX10_spells_23 ?_
      refine r_bipush (by decide) iX10_spells_24 ?_
      refine xX10_says kMX10_327 iX10_spells_26 (by decide) (Nat.le_of_ble_eq_true rfl) rfl rfl ?_
      refine c_says e2 (by simp) (fun N3 e3 e4 => ?_)
      have f3 := (f0.tr e1).tr e3
      refine ld_a0 iX10_spells_29 ?_
      refine ld_i1 iX10_spells_30 ?_
      refine r_iconst iX10_spells_31 ?_
      refine r_icmpne iX10_spells_32 (by omega) (by omega) (fun h32 => ?_) (fun h32 => ?_)
      · refine ld_i1 iX10_spells_40 ?_
        refine xX10_saysSum kMX10_330 iX10_spells_41 (by decide) (Nat.le_of_ble_eq_true rfl) rfl rfl ?_
        refine c_saysSum (mo N3 f3) hW (Or.inl (by omega)) e4 (by simp) (fun N4 e5 e6 => ?_)
        refine r_iconst iX10_spells_44 ?_
        refine sv_i2 (by decide) rfl iX10_spells_45 ?_
        refine spellL (l := [] ++ [97 + (A : Int)] ++ [61] ++ tmL d A (dT d A)) (mo N4 (f3.tr e5)) hW (by omega) (by simp; omega) (fun N5 e7 e8 => hq N5 ((f3.tr e5).tr e7) ?_) (dS d A) 0 _ N4 (by omega) (by omega) (by omega) (FrS.rf _) (by simpa [sgL] using e6)
        unfold txt
        rw [if_neg (show ¬ A = 6 by omega), if_neg (show ¬ A = 6 by omega)]
        simpa using e8
      · exfalso; omega
    · exfalso; omega
theorem m_spell {a i : Int} {Pq : Int → Nm → Ge → Prop} (hM : MS N d) (ra : rI a) (ri : rI i) (hq1 : N 40 0 22 = 1 ∧ (-1 ≤ a ∧ a < dA d) → ∀ N', FrV N N' → Pq (if i = -1 then ((txt d (rwo a)).length : Int) else gt' (txt d (rwo a)) i) N' g) (hq0 : ¬ (N 40 0 22 = 1 ∧ (-1 ≤ a ∧ a < dA d)) → ∀ N', FrV N N' → Pq (-1) N' g) : Ck K YX10_spell hX10_spell [vr 40 0, vi a, vi i] N g (qI Pq) := by
  refine Ck.intro 0 (by decide) rfl ?_
  show AW _ _ _ _ _ [some (vr 40 0), some (vi a), some (vi i)] _ _ _
  refine ld_a0 iX10_spell_0 ?_
  refine r_iconst iX10_spell_1 ?_
  refine pf_X10_thrown kFX10_72 iX10_spell_2 ?_
  obtain ⟨N1, hN1, f0⟩ : ∃ N1, N1 = upN N 40 0 0 0 ∧ FrV N N1 := ⟨_, rfl, thr_v N⟩
  rw [← hN1]
  clear hN1
  have hM1 := hM.v f0
  have h22 : N1 40 0 22 = N 40 0 22 := f0 40 0 22 (by omega) (by omega)
  have h01 := hM1.1
  refine ld_a0 iX10_spell_5 ?_
  refine ld_i1 iX10_spell_6 ?_
  refine xX10_isLine kMX10_248 iX10_spell_7 (by decide) (Nat.le_of_ble_eq_true rfl) rfl rfl ?_
  refine c_mIsLine hM1 ra ?_
  refine r_ifne iX10_spell_10 (by exact tf_r _) (fun h10 => ?_) (fun h10 => ?_)
  · have h10 := tf_y h10
    obtain ⟨a1, a2, a3⟩ := hM1.2.2 h10.1
    have tl := txt_len a1 (rwo_ok h10.2)
    refine ld_a0 iX10_spell_15 ?_
    refine ld_i1 iX10_spell_16 ?_
    refine xX10_spells kMX10_336 iX10_spell_17 (by decide) (Nat.le_of_ble_eq_true rfl) rfl rfl ?_
    refine c_spells a2 a1 h10.2 (fun N2 e1 e2 => ?_)
    have y := hq1 ⟨by omega, h10.2⟩ N2 (f0.tr e1.v)
    refine ld_i2 iX10_spell_20 ?_
    refine r_iconst iX10_spell_21 ?_
    refine r_icmpne iX10_spell_22 (by omega) (by omega) (fun h22 => ?_) (fun h22 => ?_)
    · refine ld_i2 iX10_spell_32 ?_
      refine r_i2l (by omega) iX10_spell_33 ?_
      refine r_lconst (v := 0) (by decide) iX10_spell_34 ?_
      refine ld_a0 iX10_spell_35 ?_
      refine gf_X10_speltMany kFX10_324 iX10_spell_36 ?_
      rw [e2.1]
      refine r_iconst iX10_spell_39 ?_
      refine r_isub iX10_spell_40 ?_
      refine r_i2l (by omega) iX10_spell_41 ?_
      refine xX10_in kMX10_82 iX10_spell_42 (by decide) (Nat.le_of_ble_eq_true rfl) rfl rfl ?_
      refine c_in (by omega) (by omega) (by omega) ?_
      refine r_ifeq iX10_spell_45 (by exact tf_r _) (fun h45 => ?_) (fun h45 => ?_)
      · have h45 := tf_n h45
        refine r_iconst iX10_spell_57 ?_
        refine t_int rfl iX10_spell_58 ?_
        first
          | (rw [if_pos (by omega)] at y; exact y)
          | (rw [if_neg (by omega)] at y; unfold gt' at y; rw [if_pos (by omega)] at y; exact y)
          | (rw [if_neg (by omega)] at y; unfold gt' at y
             by_cases c : 0 ≤ i
             · rw [if_pos c, List.getElem?_eq_none (by omega)] at y; exact y
             · rw [if_neg c] at y; exact y)
      · have h45 := tf_y h45
        refine ld_a0 iX10_spell_48 ?_
        refine gf_X10_spelt kFX10_69 iX10_spell_49 ?_
        refine ld_i2 iX10_spell_52 ?_
        refine al_59 (n := (i.toNat)) (by omega) (by omega) iX10_spell_53 ?_
        rw [e2.2 i.toNat (by omega)]
        refine r_goto iX10_spell_54 ?_
        refine t_int rfl iX10_spell_58 ?_
        first
          | (rw [if_pos (by omega)] at y; exact y)
          | (rw [if_neg (by omega)] at y; unfold gt' at y; rw [if_pos (by omega)] at y; exact y)
          | (rw [if_neg (by omega)] at y; unfold gt' at y
             by_cases c : 0 ≤ i
             · rw [if_pos c, List.getElem?_eq_none (by omega)] at y; exact y
             · rw [if_neg c] at y; exact y)
    · refine ld_a0 iX10_spell_25 ?_
      refine gf_X10_speltMany kFX10_324 iX10_spell_26 ?_
      rw [e2.1]
      refine r_goto iX10_spell_29 ?_
      refine t_int rfl iX10_spell_58 ?_
      first
        | (rw [if_pos (by omega)] at y; exact y)
        | (rw [if_neg (by omega)] at y; unfold gt' at y; rw [if_pos (by omega)] at y; exact y)
        | (rw [if_neg (by omega)] at y; unfold gt' at y
           by_cases c : 0 ≤ i
           · rw [if_pos c, List.getElem?_eq_none (by omega)] at y; exact y
           · rw [if_neg c] at y; exact y)
  · have h10 := tf_n h10
    refine r_iconst iX10_spell_13 ?_
    refine t_int rfl iX10_spell_14 ?_
    exact hq0 (by omega) _ f0
end Spell3
