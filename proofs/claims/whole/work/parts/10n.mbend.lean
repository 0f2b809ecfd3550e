/-! own text: the reference's bend; end of the tape -/
def olB (d : Dk) (a s w : Int) : Int := if w = 0 then dF d a.toNat s.toNat else if w = 1 then dE d a.toNat s.toNat else dL d a.toNat s.toNat
section MBend
variable {K : Kx} {N : Nm} {g : Ge} {d : Dk}
theorem m_bend {a s w v : Int} {Pq : Int → Nm → Ge → Prop} (hM : MS N d) (ra : rI a) (rs : rI s) (rw' : rI w) (rv : rI v)
    (hq1 : N 40 0 22 = 1 → IsSg d a s → (0 ≤ w ∧ w ≤ 2) → OkB d a.toNat s.toNat w.toNat v → olB d a s w ≠ v → ∀ N1, FrV N N1 → Pq (olB d a s w) (upN N1 51 0 (3 * (6 * a.toNat + s.toNat) + w.toNat) v) g)
    (hq0 : ∀ k, (k = 0 ∧ ¬ (N 40 0 22 = 1 ∧ IsSg d a s ∧ (0 ≤ w ∧ w ≤ 2))) ∨ (k = 1 ∧ (N 40 0 22 = 1 ∧ IsSg d a s ∧ (0 ≤ w ∧ w ≤ 2)) ∧ ¬ OkB d a.toNat s.toNat w.toNat v) ∨ (k = 2 ∧ (N 40 0 22 = 1 ∧ IsSg d a s ∧ (0 ≤ w ∧ w ≤ 2)) ∧ OkB d a.toNat s.toNat w.toNat v ∧ olB d a s w = v) → ∀ N1, FrV N N1 → Pq (-2) (upN N1 54 0 k (N 54 0 k + 1)) g) : Ck K YX10_bend hX10_bend [vr 40 0, vi a, vi s, vi w, vi v] N g (qI Pq) := by
  refine Ck.intro 3 (by decide) rfl ?_
  show AW _ _ _ _ _ [some (vr 40 0), some (vi a), some (vi s), some (vi w), some (vi v), none, none, none] _ _ _
  have t70 : ∀ (N1 : Nm) (z : Int), FrV N N1 → N 40 0 22 = 1 → IsSg d a s → (0 ≤ w ∧ w ≤ 2) → (z = 1 ∧ OkB d a.toNat s.toNat w.toNat v) ∨ (z = 0 ∧ ¬ OkB d a.toNat s.toNat w.toNat v) → AW K YX10_bend hX10_bend (qI Pq) 70 [some (vr 40 0), some (vi a), some (vi s), some (vi w), some (vi v), none, none, none] [vi z] N1 g := by
    intro N1 z f0 h9 hsg hw hz
    have hM1 := hM.v f0
    have h22 : N1 40 0 22 = 1 := by rw [f0 40 0 22 (by omega) (by omega)]; exact h9
    obtain ⟨a1, a2, a3⟩ := hM1.2.2 h22
    have hA := a1.1
    have hsg0 := hsg
    unfold IsSg at hsg
    have hS := (a1.2.2.1 a.toNat (by omega)).1
    have hS6 := hS.2.1
    have hrow := (a2.2.2 a.toNat (by omega)).2.2 s.toNat (by omega)
    have hbd := hS.2.2.2.2 s.toNat (by omega)
    have hval : N1 51 0 (3 * (6 * a.toNat + s.toNat) + w.toNat) = olB d a s w := by
      unfold olB
      rcases (show w = 0 ∨ w = 1 ∨ w = 2 by omega) with e | e | e <;> subst e
      · exact hrow.1
      · exact hrow.2.1
      · exact hrow.2.2
    have hob : rI (olB d a s w) := by
      unfold olB
      split
      · omega
      · split <;> omega
    refine sv_i5 (by decide) rfl iX10_bend_70 ?_
    refine ld_i5 iX10_bend_72 ?_
    refine r_ifne iX10_bend_74 (by omega) (fun h74 => ?_) (fun h74 => ?_)
    · have hok := (hz.resolve_right (fun q => by omega)).2
      refine r_iconst iX10_bend_85 ?_
      refine r_bipush (by decide) iX10_bend_86 ?_
      refine ld_i1 iX10_bend_88 ?_
      refine r_imul iX10_bend_89 ?_
      refine ld_i2 iX10_bend_90 ?_
      refine r_iadd iX10_bend_91 ?_
      refine r_imul iX10_bend_92 ?_
      refine ld_i3 iX10_bend_93 ?_
      refine r_iadd iX10_bend_94 ?_
      refine sv_i6 (by decide) rfl iX10_bend_95 ?_
      refine ld_a0 iX10_bend_97 ?_
      refine gf_X10_segment kFX10_40 iX10_bend_98 ?_
      refine ld_i6 iX10_bend_101 ?_
      refine al_51 (n := (3 * (6 * a.toNat + s.toNat) + w.toNat)) (by omega) (by omega) iX10_bend_103 ?_
      rw [hval]
      refine sv_i7 (by decide) rfl iX10_bend_104 ?_
      refine ld_i7 iX10_bend_106 ?_
      refine ld_i4 iX10_bend_108 ?_
      refine r_icmpne iX10_bend_110 (by omega) (by omega) (fun h110 => ?_) (fun h110 => ?_)
      · refine ld_a0 iX10_bend_121 ?_
        refine gf_X10_segment kFX10_40 iX10_bend_122 ?_
        refine ld_i6 iX10_bend_125 ?_
        refine ld_i4 iX10_bend_127 ?_
        refine as_51 (n := (3 * (6 * a.toNat + s.toNat) + w.toNat)) (by omega) (by omega) iX10_bend_129 ?_
        refine ld_i7 iX10_bend_130 ?_
        refine t_int rfl iX10_bend_132 ?_
        exact hq1 h9 hsg0 hw hok (by omega) N1 f0
      · refine ld_a0 iX10_bend_113 ?_
        refine r_iconst iX10_bend_114 ?_
        refine xX10_refuses kMX10_285 iX10_bend_115 (by decide) (Nat.le_of_ble_eq_true rfl) rfl rfl ?_
        refine c_refuses (k := 2) (by omega) ?_
        rw [f0 54 0 2 (by omega) (by omega)]
        refine r_iconst iX10_bend_118 ?_
        refine r_isub iX10_bend_119 ?_
        refine t_int rfl iX10_bend_120 ?_
        exact hq0 2 (Or.inr (Or.inr ⟨rfl, ⟨h9, hsg0, hw⟩, hok, by omega⟩)) N1 f0
    · refine ld_a0 iX10_bend_77 ?_
      refine r_iconst iX10_bend_78 ?_
      refine xX10_refuses kMX10_285 iX10_bend_79 (by decide) (Nat.le_of_ble_eq_true rfl) rfl rfl ?_
      refine c_refuses (k := 1) (by omega) ?_
      rw [f0 54 0 1 (by omega) (by omega)]
      refine r_iconst iX10_bend_82 ?_
      refine r_isub iX10_bend_83 ?_
      refine t_int rfl iX10_bend_84 ?_
      exact hq0 1 (Or.inr (Or.inl ⟨rfl, ⟨h9, hsg0, hw⟩, (hz.resolve_left (fun q => by omega)).2⟩)) N1 f0
  refine ld_a0 iX10_bend_0 ?_
  refine r_iconst iX10_bend_1 ?_
  refine pf_X10_thrown kFX10_72 iX10_bend_2 ?_
  obtain ⟨N1, hN1, f0⟩ : ∃ N1, N1 = upN N 40 0 0 0 ∧ FrV N N1 := ⟨_, rfl, thr_v N⟩
  rw [← hN1]
  clear hN1
  have hM1 := hM.v f0
  have h22 : N1 40 0 22 = N 40 0 22 := f0 40 0 22 (by omega) (by omega)
  have h01 := hM1.1
  refine ld_a0 iX10_bend_5 ?_
  refine ld_i1 iX10_bend_6 ?_
  refine ld_i2 iX10_bend_7 ?_
  refine xX10_isSegment kMX10_241 iX10_bend_8 (by decide) (Nat.le_of_ble_eq_true rfl) rfl rfl ?_
  refine c_mIsSegment hM1 ra rs (fun z hz => ?_)
  refine r_ifeq iX10_bend_11 (by omega) (fun h11 => ?_) (fun h11 => ?_)
  · have hz := (hz.resolve_left (fun q => by omega)).2
    refine ld_a0 iX10_bend_26 ?_
    refine r_iconst iX10_bend_27 ?_
    refine xX10_refuses kMX10_285 iX10_bend_28 (by decide) (Nat.le_of_ble_eq_true rfl) rfl rfl ?_
    refine c_refuses (k := 0) (by omega) ?_
    rw [f0 54 0 0 (by omega) (by omega)]
    refine r_iconst iX10_bend_31 ?_
    refine r_isub iX10_bend_32 ?_
    refine t_int rfl iX10_bend_33 ?_
    refine hq0 0 (Or.inl ⟨rfl, fun q => ?_⟩) N1 f0
    first
      | exact hz ⟨by omega, q.2.1⟩
      | exact h23 q.2.2
  · have hz := (hz.resolve_right (fun q => by omega)).2
    refine ld_i3 iX10_bend_14 ?_
    refine r_i2l (by omega) iX10_bend_15 ?_
    refine r_lconst (v := 0) (by decide) iX10_bend_16 ?_
    refine r_ldc2 (z := 2) kKX10_283 (by decide) iX10_bend_17 ?_
    refine xX10_in kMX10_82 iX10_bend_20 (by decide) (Nat.le_of_ble_eq_true rfl) rfl rfl ?_
    refine c_in (by omega) (by omega) (by omega) ?_
    refine r_ifne iX10_bend_23 (by exact tf_r _) (fun h23 => ?_) (fun h23 => ?_)
    · have h23 := tf_y h23
      obtain ⟨a1, a2, a3⟩ := hM1.2.2 hz.1
      have hsg := hz.2
      unfold IsSg at hsg
      refine ld_i3 iX10_bend_34 ?_
      refine r_ifne iX10_bend_35 (by omega) (fun h35 => ?_) (fun h35 => ?_)
      · refine ld_i4 iX10_bend_49 ?_
        refine r_i2l (by omega) iX10_bend_51 ?_
        refine r_lconst (v := 0) (by decide) iX10_bend_52 ?_
        refine ld_i3 iX10_bend_53 ?_
        refine r_iconst iX10_bend_54 ?_
        refine r_icmpne iX10_bend_55 (by omega) (by omega) (fun h55 => ?_) (fun h55 => ?_)
        · refine r_ldc2 (z := 1999) kKX10_292 (by decide) iX10_bend_64 ?_
          refine xX10_in kMX10_82 iX10_bend_67 (by decide) (Nat.le_of_ble_eq_true rfl) rfl rfl ?_
          refine c_in (by omega) (by omega) (by omega) ?_
          first
            | (refine t70 N1 _ f0 (by omega) hz.2 h23 ?_
               rw [show w.toNat = 0 by omega]; exact hz')
            | (refine t70 N1 _ f0 (by omega) hz.2 h23 ?_
               rcases (show w = 1 ∨ w = 2 by omega) with e | e <;> subst e
               · first
                 | (exfalso; omega)
                 | (by_cases c : 0 ≤ v ∧ v ≤ 9999
                    · exact Or.inl ⟨if_pos c, ⟨fun y => by omega, fun _ => c, fun y => by omega⟩⟩
                    · exact Or.inr ⟨if_neg c, fun h => c (h.2.1 rfl)⟩)
               · first
                 | (exfalso; omega)
                 | (by_cases c : 0 ≤ v ∧ v ≤ 1999
                    · exact Or.inl ⟨if_pos c, ⟨fun y => by omega, fun y => by omega, fun _ => c⟩⟩
                    · exact Or.inr ⟨if_neg c, fun h => c (h.2.2 rfl)⟩))
        · refine r_ldc2 (z := 9999) kKX10_173 (by decide) iX10_bend_58 ?_
          refine r_goto iX10_bend_61 ?_
          refine xX10_in kMX10_82 iX10_bend_67 (by decide) (Nat.le_of_ble_eq_true rfl) rfl rfl ?_
          refine c_in (by omega) (by omega) (by omega) ?_
          first
            | (refine t70 N1 _ f0 (by omega) hz.2 h23 ?_
               rw [show w.toNat = 0 by omega]; exact hz')
            | (refine t70 N1 _ f0 (by omega) hz.2 h23 ?_
               rcases (show w = 1 ∨ w = 2 by omega) with e | e <;> subst e
               · first
                 | (exfalso; omega)
                 | (by_cases c : 0 ≤ v ∧ v ≤ 9999
                    · exact Or.inl ⟨if_pos c, ⟨fun y => by omega, fun _ => c, fun y => by omega⟩⟩
                    · exact Or.inr ⟨if_neg c, fun h => c (h.2.1 rfl)⟩)
               · first
                 | (exfalso; omega)
                 | (by_cases c : 0 ≤ v ∧ v ≤ 1999
                    · exact Or.inl ⟨if_pos c, ⟨fun y => by omega, fun y => by omega, fun _ => c⟩⟩
                    · exact Or.inr ⟨if_neg c, fun h => c (h.2.2 rfl)⟩))
      · refine ld_a0 iX10_bend_38 ?_
        refine ld_i1 iX10_bend_39 ?_
        refine ld_i2 iX10_bend_40 ?_
        refine ld_i4 iX10_bend_41 ?_
        obtain ⟨A, hA1⟩ : ∃ A : Nat, a = A := ⟨a.toNat, by omega⟩
        obtain ⟨S, hS1⟩ : ∃ S : Nat, s = S := ⟨s.toNat, by omega⟩
        subst hA1
        subst hS1
        refine xX10_isFromFor kMX10_288 iX10_bend_43 (by decide) (Nat.le_of_ble_eq_true rfl) rfl rfl ?_
        refine c_isFromFor a2 a1 (by omega) (by simpa using hsg.2.2) rv (fun z' hz' => ?_)
        refine r_goto iX10_bend_46 ?_
        first
          | (refine t70 N1 _ f0 (by omega) hz.2 h23 ?_
             rw [show w.toNat = 0 by omega]; exact hz')
          | (refine t70 N1 _ f0 (by omega) hz.2 h23 ?_
             rcases (show w = 1 ∨ w = 2 by omega) with e | e <;> subst e
             · first
               | (exfalso; omega)
               | (by_cases c : 0 ≤ v ∧ v ≤ 9999
                  · exact Or.inl ⟨if_pos c, ⟨fun y => by omega, fun _ => c, fun y => by omega⟩⟩
                  · exact Or.inr ⟨if_neg c, fun h => c (h.2.1 rfl)⟩)
             · first
               | (exfalso; omega)
               | (by_cases c : 0 ≤ v ∧ v ≤ 1999
                  · exact Or.inl ⟨if_pos c, ⟨fun y => by omega, fun y => by omega, fun _ => c⟩⟩
                  · exact Or.inr ⟨if_neg c, fun h => c (h.2.2 rfl)⟩))
    · have h23 := tf_n h23
      refine ld_a0 iX10_bend_26 ?_
      refine r_iconst iX10_bend_27 ?_
      refine xX10_refuses kMX10_285 iX10_bend_28 (by decide) (Nat.le_of_ble_eq_true rfl) rfl rfl ?_
      refine c_refuses (k := 0) (by omega) ?_
      rw [f0 54 0 0 (by omega) (by omega)]
      refine r_iconst iX10_bend_31 ?_
      refine r_isub iX10_bend_32 ?_
      refine t_int rfl iX10_bend_33 ?_
      refine hq0 0 (Or.inl ⟨rfl, fun q => ?_⟩) N1 f0
      first
        | exact hz ⟨by omega, q.2.1⟩
        | exact h23 q.2.2
end MBend
