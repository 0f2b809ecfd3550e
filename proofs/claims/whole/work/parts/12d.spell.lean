/-! own text: a rule is spelt by the reference -/
def SpM (N : Nm) (l : List Int) : Prop := N 40 0 33 = (l.length : Int) ∧ ∀ j, j < l.length → N 59 0 j = (l[j]?).getD (-1)
def FrS (N N' : Nm) : Prop := ∀ k i j, k ≠ 59 → ¬ (k = 40 ∧ j = 33) → N' k i j = N k i j
theorem FrS.rf (N : Nm) : FrS N N := fun _ _ _ _ _ => rfl
theorem FrS.tr {A B C : Nm} (h1 : FrS A B) (h2 : FrS B C) : FrS A C := fun k a j q z => (h2 k a j q z).trans (h1 k a j q z)
theorem FrS.v {A B : Nm} (h : FrS A B) : FrV A B := fun k i j z1 z2 => h k i j (by omega) (by omega)
def fd0 (_ : Int) : List Int := []
def fd1 (v : Int) : List Int := [48 + v / 1 % 10] ++ fd0 v
def fd10 (v : Int) : List Int := [48 + v / 10 % 10] ++ fd1 v
def fd100 (v : Int) : List Int := [48 + v / 100 % 10] ++ fd10 v
def fd1000 (v : Int) : List Int := [48 + v / 1000 % 10] ++ fd100 v
section Spell6
variable {K : Kx} {N : Nm} {g : Ge} {l : List Int}
theorem c_says {c : Int} {Pq : Nm → Ge → Prop} (hS : SpM N l) (hl : l.length < 160) (hq : ∀ N', FrS N N' → SpM N' (l ++ [c]) → Pq N' g) : Ck K YX10_says hX10_says [vr 40 0, vi c] N g (qV Pq) := by
  obtain ⟨s1, s2⟩ := hS
  refine Ck.intro 0 (by decide) rfl ?_
  show AW _ _ _ _ _ [some (vr 40 0), some (vi c)] _ _ _
  refine ld_a0 iX10_says_0 ?_
  refine gf_X10_spelt kFX10_69 iX10_says_1 ?_
  refine ld_a0 iX10_says_4 ?_
  refine gf_X10_speltMany kFX10_324 iX10_says_5 ?_
  rw [s1]
  refine ld_i1 iX10_says_8 ?_
  refine as_59 rfl (by omega) iX10_says_9 ?_
  refine ld_a0 iX10_says_10 ?_
  refine r_dup rfl iX10_says_11 ?_
  refine gf_X10_speltMany kFX10_324 iX10_says_12 ?_
  rw [upN_k (by decide), s1]
  refine r_iconst iX10_says_15 ?_
  refine r_iadd iX10_says_16 ?_
  refine pf_X10_speltMany kFX10_324 iX10_says_17 ?_
  refine t_void rfl iX10_says_20 ?_
  refine hq _ (fun k i j z1 z2 => ?_) ⟨?_, fun j hj => ?_⟩
  · rw [show upN (upN N 59 0 l.length c) 40 0 33 ((l.length : Int) + 1) k i j = upN N 59 0 l.length c k i j from if_neg (fun y => by omega)]; exact upN_k z1
  · rw [upN_eq]; simp
  · rw [upN_k (by decide)]
    by_cases e : j = l.length
    · rw [e, upN_eq]; simp
    · have hj : j < l.length := by simp at hj; omega
      rw [upN_j e, List.getElem?_append_left hj]; exact s2 j hj
theorem c_saysNumber {v : Int} {Pq : Nm → Ge → Prop} (hS : SpM N l) (hl : l.length ≤ 150) (hv : 0 ≤ v ∧ v ≤ 9999) (hq : ∀ N', FrS N N' → SpM N' (l ++ dg1000 v) → Pq N' g) : Ck K YX10_saysNumber hX10_saysNumber [vr 40 0, vi v] N g (qV Pq) := by
  refine Ck.intro 1 (by decide) rfl ?_
  show AW _ _ _ _ _ [some (vr 40 0), some (vi v), none] _ _ _
  have t0 : ∀ (N' : Nm) (l' : List Int), FrS N N' → SpM N' l' → (∀ N2, FrS N N2 → SpM N2 (l' ++ fd0 v) → Pq N2 g) → AW K YX10_saysNumber hX10_saysNumber (qV Pq) 18 [some (vr 40 0), some (vi v), some (vi 0)] [] N' g := by
    intro N' l' hF hS hk
    refine ld_i2 iX10_saysNumber_18 ?_
    refine r_ifle iX10_saysNumber_19 (by omega) (fun h19 => ?_) (fun h19 => ?_)
    · refine t_void rfl iX10_saysNumber_43 ?_
      exact hk N' hF (by simpa [fd0] using hS)
    · exfalso; omega
  have t1 : ∀ (N' : Nm) (l' : List Int), l'.length ≤ 158 → FrS N N' → SpM N' l' → (∀ N2, FrS N N2 → SpM N2 (l' ++ fd1 v) → Pq N2 g) → AW K YX10_saysNumber hX10_saysNumber (qV Pq) 18 [some (vr 40 0), some (vi v), some (vi 1)] [] N' g := by
    intro N' l' hl' hF hS hk
    unfold fd1 at hk
    refine ld_i2 iX10_saysNumber_18 ?_
    refine r_ifle iX10_saysNumber_19 (by omega) (fun h19 => ?_) (fun h19 => ?_)
    · exfalso; omega
    · refine ld_a0 iX10_saysNumber_22 ?_
      refine r_bipush (by decide) iX10_saysNumber_23 ?_
      refine ld_i1 iX10_saysNumber_25 ?_
      refine ld_i2 iX10_saysNumber_26 ?_
      refine r_idiv (by omega) (by omega) (by omega) iX10_saysNumber_27 ?_
      rw [Int.tdiv_eq_ediv_of_nonneg (by omega)]
      refine r_bipush (by decide) iX10_saysNumber_28 ?_
      refine r_irem (by omega) (by omega) (by omega) iX10_saysNumber_30 ?_
      rw [Int.tmod_eq_emod_of_nonneg (by omega)]
      refine r_iadd iX10_saysNumber_31 ?_
      refine xX10_says kMX10_327 iX10_saysNumber_32 (by decide) (Nat.le_of_ble_eq_true rfl) rfl rfl ?_
      refine c_says hS (by omega) (fun N2 e1 e2 => ?_)
      refine ld_i2 iX10_saysNumber_35 ?_
      refine r_bipush (by decide) iX10_saysNumber_36 ?_
      refine r_idiv (by omega) (by omega) (by omega) iX10_saysNumber_38 ?_
      refine sv_i2 (by decide) rfl iX10_saysNumber_39 ?_
      refine r_goto iX10_saysNumber_40 ?_
      exact t0 N2 _ (hF.tr e1) e2 (fun N3 k1 k2 => hk N3 k1 (by rw [← List.append_assoc]; exact k2))
  have t10 : ∀ (N' : Nm) (l' : List Int), l'.length ≤ 157 → FrS N N' → SpM N' l' → (∀ N2, FrS N N2 → SpM N2 (l' ++ fd10 v) → Pq N2 g) → AW K YX10_saysNumber hX10_saysNumber (qV Pq) 18 [some (vr 40 0), some (vi v), some (vi 10)] [] N' g := by
    intro N' l' hl' hF hS hk
    unfold fd10 at hk
    refine ld_i2 iX10_saysNumber_18 ?_
    refine r_ifle iX10_saysNumber_19 (by omega) (fun h19 => ?_) (fun h19 => ?_)
    · exfalso; omega
    · refine ld_a0 iX10_saysNumber_22 ?_
      refine r_bipush (by decide) iX10_saysNumber_23 ?_
      refine ld_i1 iX10_saysNumber_25 ?_
      refine ld_i2 iX10_saysNumber_26 ?_
      refine r_idiv (by omega) (by omega) (by omega) iX10_saysNumber_27 ?_
      rw [Int.tdiv_eq_ediv_of_nonneg (by omega)]
      refine r_bipush (by decide) iX10_saysNumber_28 ?_
      refine r_irem (by omega) (by omega) (by omega) iX10_saysNumber_30 ?_
      rw [Int.tmod_eq_emod_of_nonneg (by omega)]
      refine r_iadd iX10_saysNumber_31 ?_
      refine xX10_says kMX10_327 iX10_saysNumber_32 (by decide) (Nat.le_of_ble_eq_true rfl) rfl rfl ?_
      refine c_says hS (by omega) (fun N2 e1 e2 => ?_)
      refine ld_i2 iX10_saysNumber_35 ?_
      refine r_bipush (by decide) iX10_saysNumber_36 ?_
      refine r_idiv (by omega) (by omega) (by omega) iX10_saysNumber_38 ?_
      refine sv_i2 (by decide) rfl iX10_saysNumber_39 ?_
      refine r_goto iX10_saysNumber_40 ?_
      exact t1 N2 _ (by simp; omega) (hF.tr e1) e2 (fun N3 k1 k2 => hk N3 k1 (by rw [← List.append_assoc]; exact k2))
  have t100 : ∀ (N' : Nm) (l' : List Int), l'.length ≤ 156 → FrS N N' → SpM N' l' → (∀ N2, FrS N N2 → SpM N2 (l' ++ fd100 v) → Pq N2 g) → AW K YX10_saysNumber hX10_saysNumber (qV Pq) 18 [some (vr 40 0), some (vi v), some (vi 100)] [] N' g := by
    intro N' l' hl' hF hS hk
    unfold fd100 at hk
    refine ld_i2 iX10_saysNumber_18 ?_
    refine r_ifle iX10_saysNumber_19 (by omega) (fun h19 => ?_) (fun h19 => ?_)
    · exfalso; omega
    · refine ld_a0 iX10_saysNumber_22 ?_
      refine r_bipush (by decide) iX10_saysNumber_23 ?_
      refine ld_i1 iX10_saysNumber_25 ?_
      refine ld_i2 iX10_saysNumber_26 ?_
      refine r_idiv (by omega) (by omega) (by omega) iX10_saysNumber_27 ?_
      rw [Int.tdiv_eq_ediv_of_nonneg (by omega)]
      refine r_bipush (by decide) iX10_saysNumber_28 ?_
      refine r_irem (by omega) (by omega) (by omega) iX10_saysNumber_30 ?_
      rw [Int.tmod_eq_emod_of_nonneg (by omega)]
      refine r_iadd iX10_saysNumber_31 ?_
      refine xX10_says kMX10_327 iX10_saysNumber_32 (by decide) (Nat.le_of_ble_eq_true rfl) rfl rfl ?_
      refine c_says hS (by omega) (fun N2 e1 e2 => ?_)
      refine ld_i2 iX10_saysNumber_35 ?_
      refine r_bipush (by decide) iX10_saysNumber_36 ?_
      refine r_idiv (by omega) (by omega) (by omega) iX10_saysNumber_38 ?_
      refine sv_i2 (by decide) rfl iX10_saysNumber_39 ?_
      refine r_goto iX10_saysNumber_40 ?_
      exact t10 N2 _ (by simp; omega) (hF.tr e1) e2 (fun N3 k1 k2 => hk N3 k1 (by rw [← List.append_assoc]; exact k2))
  have t1000 : ∀ (N' : Nm) (l' : List Int), l'.length ≤ 155 → FrS N N' → SpM N' l' → (∀ N2, FrS N N2 → SpM N2 (l' ++ fd1000 v) → Pq N2 g) → AW K YX10_saysNumber hX10_saysNumber (qV Pq) 18 [some (vr 40 0), some (vi v), some (vi 1000)] [] N' g := by
    intro N' l' hl' hF hS hk
    unfold fd1000 at hk
    refine ld_i2 iX10_saysNumber_18 ?_
    refine r_ifle iX10_saysNumber_19 (by omega) (fun h19 => ?_) (fun h19 => ?_)
    · exfalso; omega
    · refine ld_a0 iX10_saysNumber_22 ?_
      refine r_bipush (by decide) iX10_saysNumber_23 ?_
      refine ld_i1 iX10_saysNumber_25 ?_
      refine ld_i2 iX10_saysNumber_26 ?_
      refine r_idiv (by omega) (by omega) (by omega) iX10_saysNumber_27 ?_
      rw [Int.tdiv_eq_ediv_of_nonneg (by omega)]
      refine r_bipush (by decide) iX10_saysNumber_28 ?_
      refine r_irem (by omega) (by omega) (by omega) iX10_saysNumber_30 ?_
      rw [Int.tmod_eq_emod_of_nonneg (by omega)]
      refine r_iadd iX10_saysNumber_31 ?_
      refine xX10_says kMX10_327 iX10_saysNumber_32 (by decide) (Nat.le_of_ble_eq_true rfl) rfl rfl ?_
      refine c_says hS (by omega) (fun N2 e1 e2 => ?_)
      refine ld_i2 iX10_saysNumber_35 ?_
      refine r_bipush (by decide) iX10_saysNumber_36 ?_
      refine r_idiv (by omega) (by omega) (by omega) iX10_saysNumber_38 ?_
      refine sv_i2 (by decide) rfl iX10_saysNumber_39 ?_
      refine r_goto iX10_saysNumber_40 ?_
      exact t100 N2 _ (by simp; omega) (hF.tr e1) e2 (fun N3 k1 k2 => hk N3 k1 (by rw [← List.append_assoc]; exact k2))
  have e1 : v < 10 → dg1000 v = fd1 v := fun q => by unfold dg1000 dg100 dg10 dg1 fd1 fd0; rw [if_neg (by omega), if_neg (by omega), if_neg (by omega)]; simp
  have e2 : 10 ≤ v → v < 100 → dg1000 v = fd10 v := fun q z => by unfold dg1000 dg100 dg10 dg1 fd10 fd1 fd0; rw [if_neg (by omega), if_neg (by omega), if_pos (by omega)]; simp
  have e3 : 100 ≤ v → v < 1000 → dg1000 v = fd100 v := fun q z => by unfold dg1000 dg100 dg10 dg1 fd100 fd10 fd1 fd0; rw [if_neg (by omega), if_pos (by omega), if_pos (by omega)]; simp
  have e4 : 1000 ≤ v → dg1000 v = fd1000 v := fun q => by unfold dg1000 dg100 dg10 dg1 fd1000 fd100 fd10 fd1 fd0; rw [if_pos (by omega), if_pos (by omega), if_pos (by omega)]; simp
  have u1000 : 1000 ≤ v → AW K YX10_saysNumber hX10_saysNumber (qV Pq) 2 [some (vr 40 0), some (vi v), some (vi 1000)] [] N g := by
    intro hv2
    refine ld_i2 iX10_saysNumber_2 ?_
    refine ld_i1 iX10_saysNumber_3 ?_
    refine r_bipush (by decide) iX10_saysNumber_4 ?_
    refine r_idiv (by omega) (by omega) (by omega) iX10_saysNumber_6 ?_
    rw [Int.tdiv_eq_ediv_of_nonneg (by omega)]
    refine r_icmpgt iX10_saysNumber_7 (by omega) (by omega) (fun h7 => ?_) (fun h7 => ?_)
    · exact t1000 N l (by omega) (FrS.rf N) hS (by rw [← e4 hv2]; exact hq)
    · exfalso; omega
  have u100 : 100 ≤ v → AW K YX10_saysNumber hX10_saysNumber (qV Pq) 2 [some (vr 40 0), some (vi v), some (vi 100)] [] N g := by
    intro hv2
    refine ld_i2 iX10_saysNumber_2 ?_
    refine ld_i1 iX10_saysNumber_3 ?_
    refine r_bipush (by decide) iX10_saysNumber_4 ?_
    refine r_idiv (by omega) (by omega) (by omega) iX10_saysNumber_6 ?_
    rw [Int.tdiv_eq_ediv_of_nonneg (by omega)]
    refine r_icmpgt iX10_saysNumber_7 (by omega) (by omega) (fun h7 => ?_) (fun h7 => ?_)
    · exact t100 N l (by omega) (FrS.rf N) hS (by rw [← e3 hv2 (by omega)]; exact hq)
    · refine ld_i2 iX10_saysNumber_10 ?_
      refine r_bipush (by decide) iX10_saysNumber_11 ?_
      refine r_imul iX10_saysNumber_13 ?_
      refine sv_i2 (by decide) rfl iX10_saysNumber_14 ?_
      refine r_goto iX10_saysNumber_15 ?_
      exact u1000 (by omega)
  have u10 : 10 ≤ v → AW K YX10_saysNumber hX10_saysNumber (qV Pq) 2 [some (vr 40 0), some (vi v), some (vi 10)] [] N g := by
    intro hv2
    refine ld_i2 iX10_saysNumber_2 ?_
    refine ld_i1 iX10_saysNumber_3 ?_
    refine r_bipush (by decide) iX10_saysNumber_4 ?_
    refine r_idiv (by omega) (by omega) (by omega) iX10_saysNumber_6 ?_
    rw [Int.tdiv_eq_ediv_of_nonneg (by omega)]
    refine r_icmpgt iX10_saysNumber_7 (by omega) (by omega) (fun h7 => ?_) (fun h7 => ?_)
    · exact t10 N l (by omega) (FrS.rf N) hS (by rw [← e2 hv2 (by omega)]; exact hq)
    · refine ld_i2 iX10_saysNumber_10 ?_
      refine r_bipush (by decide) iX10_saysNumber_11 ?_
      refine r_imul iX10_saysNumber_13 ?_
      refine sv_i2 (by decide) rfl iX10_saysNumber_14 ?_
      refine r_goto iX10_saysNumber_15 ?_
      exact u100 (by omega)
  have u1 : AW K YX10_saysNumber hX10_saysNumber (qV Pq) 2 [some (vr 40 0), some (vi v), some (vi 1)] [] N g := by
    refine ld_i2 iX10_saysNumber_2 ?_
    refine ld_i1 iX10_saysNumber_3 ?_
    refine r_bipush (by decide) iX10_saysNumber_4 ?_
    refine r_idiv (by omega) (by omega) (by omega) iX10_saysNumber_6 ?_
    rw [Int.tdiv_eq_ediv_of_nonneg (by omega)]
    refine r_icmpgt iX10_saysNumber_7 (by omega) (by omega) (fun h7 => ?_) (fun h7 => ?_)
    · exact t1 N l (by omega) (FrS.rf N) hS (by rw [← e1 (by omega)]; exact hq)
    · refine ld_i2 iX10_saysNumber_10 ?_
      refine r_bipush (by decide) iX10_saysNumber_11 ?_
      refine r_imul iX10_saysNumber_13 ?_
      refine sv_i2 (by decide) rfl iX10_saysNumber_14 ?_
      refine r_goto iX10_saysNumber_15 ?_
      exact u10 (by omega)
  refine r_iconst iX10_saysNumber_0 ?_
  refine sv_i2 (by decide) rfl iX10_saysNumber_1 ?_
  exact u1
end Spell6
