/-! own text: the class reads terms -/
/-- the row a of the Rules r has these n terms -/
def RowT (N : Nm) (r a n : Nat) (G : Nat → Int) (M : Nat → Nat) : Prop := N 21 r a = n ∧ ∀ j, j < n → N 23 (7 * r + a) j = M j ∧ N 25 (7 * r + a) j = G j
/-- nothing but the Reader's place and these terms has changed -/
def FrT (r a : Nat) (N N' : Nm) : Prop := ∀ k i j, ¬ (k = 1 ∧ (j = 2 ∨ j = 3)) → ¬ (k = 21 ∧ i = r ∧ j = a) → ¬ ((k = 23 ∨ k = 25) ∧ i = 7 * r + a) → N' k i j = N k i j
theorem FrT.rf (r a : Nat) (N : Nm) : FrT r a N N := fun _ _ _ _ _ _ => rfl
theorem FrT.tr {r a : Nat} {A B C : Nm} (h1 : FrT r a A B) (h2 : FrT r a B C) : FrT r a A C := fun k i j q z y => (h2 k i j q z y).trans (h1 k i j q z y)
theorem FrC.t {A B : Nm} (h : FrC A B) (r a : Nat) : FrT r a A B := fun k i j q _ _ => h k i j q
theorem Rd.t {N N' : Nm} {T : Nat → Int} {L p r a : Nat} (h : Rd N T L p) (f : ∀ k i j, k < 3 → N' k i j = N k i j) : Rd N' T L p := ⟨h.1.of (f 1 0 1 (by omega)) (fun j => f 2 0 j (by omega)), by rw [f 1 0 2 (by omega)]; exact h.2.1, by rw [f 1 0 3 (by omega)]; exact h.2.2.1, h.2.2.2⟩
theorem RowT.of {N N' : Nm} {r a n : Nat} {G : Nat → Int} {M : Nat → Nat} (h : RowT N r a n G M) (f : ∀ k i j, 20 ≤ k → k ≤ 25 → N' k i j = N k i j) : RowT N' r a n G M := ⟨by rw [f 21 _ _ (by omega) (by omega)]; exact h.1, fun j hj => by rw [f 23 _ _ (by omega) (by omega), f 25 _ _ (by omega) (by omega)]; exact h.2 j hj⟩
theorem RowT.c {N N' : Nm} {r a n : Nat} {G : Nat → Int} {M : Nat → Nat} (h : RowT N r a n G M) (f : FrC N N') : RowT N' r a n G M := h.of (fun k i j z1 z2 => f k i j (by omega))
section Read8
variable {K : Kx} {N : Nm} {g : Ge} {T : Nat → Int} {L p r a n : Nat} {G : Nat → Int} {M : Nat → Nat}
theorem c_addTerm {t : Nat} {sg : Int} {Pq : Nm → Ge → Prop} (ha : a < 7) (hn : n < 6) (hT : RowT N r a n G M) (hq : ∀ N', FrT r a N N' → (∀ k i j, k < 3 → N' k i j = N k i j) → RowT N' r a (n + 1) (upf G n sg) (upf M n t) → Pq N' g) : Ck K YX5_addTerm hX5_addTerm [vr 20 r, vi a, vi t, vi sg] N g (qV Pq) := by
  obtain ⟨t1, t2⟩ := id hT
  refine Ck.intro 0 (by decide) rfl ?_
  show AW _ _ _ _ _ [some (vr 20 r), some (vi a), some (vi t), some (vi sg)] _ _ _
  refine ld_a0 iX5_addTerm_0 ?_
  refine gf_X5_terms kFX5_24 iX5_addTerm_1 ?_
  refine ld_i1 iX5_addTerm_4 ?_
  refine al_22 rfl (by omega) iX5_addTerm_5 ?_
  refine ld_a0 iX5_addTerm_6 ?_
  refine gf_X5_termCounts kFX5_18 iX5_addTerm_7 ?_
  refine ld_i1 iX5_addTerm_10 ?_
  refine al_21 rfl (by omega) iX5_addTerm_11 ?_
  rw [t1]
  refine ld_i2 iX5_addTerm_12 ?_
  refine as_23 rfl (by omega) iX5_addTerm_13 ?_
  refine ld_a0 iX5_addTerm_14 ?_
  refine gf_X5_signs kFX5_27 iX5_addTerm_15 ?_
  refine ld_i1 iX5_addTerm_18 ?_
  refine al_24 rfl (by omega) iX5_addTerm_19 ?_
  refine ld_a0 iX5_addTerm_20 ?_
  refine gf_X5_termCounts kFX5_18 iX5_addTerm_21 ?_
  refine ld_i1 iX5_addTerm_24 ?_
  refine al_21 rfl (by omega) iX5_addTerm_25 ?_
  rw [upN_k (by decide), t1]
  refine ld_i3 iX5_addTerm_26 ?_
  refine as_25 rfl (by omega) iX5_addTerm_27 ?_
  refine ld_a0 iX5_addTerm_28 ?_
  refine gf_X5_termCounts kFX5_18 iX5_addTerm_29 ?_
  refine ld_i1 iX5_addTerm_32 ?_
  refine r_dup2 rfl rfl iX5_addTerm_33 ?_
  refine al_21 rfl (by omega) iX5_addTerm_34 ?_
  rw [upN_k (by decide), upN_k (by decide), t1]
  refine r_iconst iX5_addTerm_35 ?_
  refine r_iadd iX5_addTerm_36 ?_
  refine as_21 rfl (by omega) iX5_addTerm_37 ?_
  refine t_void rfl iX5_addTerm_38 ?_
  refine hq _ (fun k i j z1 z2 z3 => ?_) (fun k i j z => ?_) ⟨upN_eq _ _ _ _ _, fun j hj => ?_⟩
  · rw [show ∀ A v, upN A 21 r a v k i j = A k i j from fun A v => if_neg (fun y => z2 y), show ∀ A v, upN A 25 (7 * r + a) n v k i j = A k i j from fun A v => if_neg (fun y => z3 ⟨Or.inr y.1, y.2.1⟩), show ∀ A v, upN A 23 (7 * r + a) n v k i j = A k i j from fun A v => if_neg (fun y => z3 ⟨Or.inl y.1, y.2.1⟩)]
  · rw [upN_k (by omega), upN_k (by omega), upN_k (by omega)]
  · by_cases e : j = n
    · subst e; simp [upN, upf]
    · have := t2 j (by omega); simp [upN, upf, e]; exact this
theorem c_termOf {c : Int} {A : Nat} {Pq : Int → Nm → Ge → Prop} (hc : -1 ≤ c ∧ c ≤ 255) (hA : A ≤ 6) (hq : ∀ z : Int, -1 ≤ z ∧ z ≤ 7 → Imp (z = -1) (tmc c A = none) → Imp (z ≠ -1) (∃ t : Nat, z = t ∧ tmc c A = some t) → Pq z N g) : Ck K YX4_termOf hX4_termOf [vi c, vi A] N g (qI Pq) := by
  refine Ck.intro 0 (by decide) rfl ?_
  show AW _ _ _ _ _ [some (vi c), some (vi A)] _ _ _
  have t40 : ∀ z : Int, -1 ≤ z ∧ z ≤ 7 → Imp (z = -1) (tmc c A = none) → Imp (z ≠ -1) (∃ t : Nat, z = t ∧ tmc c A = some t) → AW K YX4_termOf hX4_termOf (qI Pq) 40 [some (vi c), some (vi A)] [vi z] N g := by
    intro z h1 h2 h3
    refine t_int rfl iX4_termOf_40 ?_
    exact hq z h1 h2 h3
  refine ld_i0 iX4_termOf_0 ?_
  refine r_bipush (by decide) iX4_termOf_1 ?_
  refine r_icmpne iX4_termOf_3 (by omega) (by omega) (fun h3 => ?_) (fun h3 => ?_)
  · refine ld_i0 iX4_termOf_9 ?_
    refine r_bipush (by decide) iX4_termOf_10 ?_
    refine r_icmpne iX4_termOf_12 (by omega) (by omega) (fun h12 => ?_) (fun h12 => ?_)
    · refine ld_i0 iX4_termOf_18 ?_
      refine r_bipush (by decide) iX4_termOf_19 ?_
      refine r_icmplt iX4_termOf_21 (by omega) (by omega) (fun h21 => ?_) (fun h21 => ?_)
      · refine r_iconst iX4_termOf_39 ?_
        first
          | exact t40 _ (by omega) (fun z => by omega) (fun _ => ⟨(c - 97).toNat, by omega, by unfold tmc; rw [if_neg (by omega), if_neg (by omega), if_pos (by omega)]⟩)
          | exact t40 _ (by omega) (fun _ => by unfold tmc; rw [if_neg (by omega), if_neg (by omega), if_neg (by omega)]) (fun z => absurd rfl z)
      · refine ld_i0 iX4_termOf_24 ?_
        refine r_bipush (by decide) iX4_termOf_25 ?_
        refine ld_i1 iX4_termOf_27 ?_
        refine r_iadd iX4_termOf_28 ?_
        refine r_icmpge iX4_termOf_29 (by omega) (by omega) (fun h29 => ?_) (fun h29 => ?_)
        · refine r_iconst iX4_termOf_39 ?_
          first
            | exact t40 _ (by omega) (fun z => by omega) (fun _ => ⟨(c - 97).toNat, by omega, by unfold tmc; rw [if_neg (by omega), if_neg (by omega), if_pos (by omega)]⟩)
            | exact t40 _ (by omega) (fun _ => by unfold tmc; rw [if_neg (by omega), if_neg (by omega), if_neg (by omega)]) (fun z => absurd rfl z)
        · refine ld_i0 iX4_termOf_32 ?_
          refine r_bipush (by decide) iX4_termOf_33 ?_
          refine r_isub iX4_termOf_35 ?_
          refine r_goto iX4_termOf_36 ?_
          first
            | exact t40 _ (by omega) (fun z => by omega) (fun _ => ⟨(c - 97).toNat, by omega, by unfold tmc; rw [if_neg (by omega), if_neg (by omega), if_pos (by omega)]⟩)
            | exact t40 _ (by omega) (fun _ => by unfold tmc; rw [if_neg (by omega), if_neg (by omega), if_neg (by omega)]) (fun z => absurd rfl z)
    · refine r_bipush (by decide) iX4_termOf_15 ?_
      refine t_int rfl iX4_termOf_17 ?_
      exact hq 7 (by omega) (fun z => by omega) (fun _ => ⟨7, rfl, by unfold tmc; rw [if_neg (by omega), if_pos (by omega)]⟩)
  · refine r_bipush (by decide) iX4_termOf_6 ?_
    refine t_int rfl iX4_termOf_8 ?_
    exact hq 6 (by omega) (fun z => by omega) (fun _ => ⟨6, rfl, by unfold tmc; rw [if_pos (by omega)]⟩)
theorem c_depthOf {D : Nat → Nat} {Pq : Int → Nm → Ge → Prop} (ha : a < 7) (hn : n ≤ 6) (hT : RowT N r a n G M) (hM : ∀ j, j < n → M j < 8) (hD : ∀ j, j < n → M j < 6 → N 26 r (M j) = D (M j) ∧ D (M j) ≤ 3) (hq : Pq ((dpm D M n + 1 : Nat) : Int) N g) : Ck K YX5_depthOfTerms hX5_depthOfTerms [vr 20 r, vi a] N g (qI Pq) := by
  obtain ⟨t1, t2⟩ := id hT
  refine Ck.intro 3 (by decide) rfl ?_
  show AW _ _ _ _ _ [some (vr 20 r), some (vi a), none, none, none] _ _ _
  have loop : ∀ (f k : Nat) (c e : Int), n - k = f → k ≤ n → c = k → e = dpm D M k → AW K YX5_depthOfTerms hX5_depthOfTerms (qI Pq) 4 [some (vr 20 r), some (vi a), some (vi e), some (vi c), none] [] N g := by
    intro f
    induction f using Nat.strongRecOn with
    | _ f ih =>
      intro k c e e0 hk hc he
      subst hc
      have db := dpm_le (D := D) (M := M) (B := 3) k (fun j hj hm => (hD j (by omega) hm).2)
      subst he
      refine ld_i3 iX5_depthOfTerms_4 ?_
      refine ld_a0 iX5_depthOfTerms_5 ?_
      refine gf_X5_termCounts kFX5_18 iX5_depthOfTerms_6 ?_
      refine ld_i1 iX5_depthOfTerms_9 ?_
      refine al_21 rfl (by omega) iX5_depthOfTerms_10 ?_
      rw [t1]
      refine r_icmpge iX5_depthOfTerms_11 (by omega) (by omega) (fun h11 => ?_) (fun h11 => ?_)
      · refine ld_i2 iX5_depthOfTerms_49 ?_
        refine r_iconst iX5_depthOfTerms_50 ?_
        refine r_iadd iX5_depthOfTerms_51 ?_
        refine t_int rfl iX5_depthOfTerms_52 ?_
        rw [show k = n by omega]
        rw [show ((dpm D M n : Nat) : Int) + 1 = ((dpm D M n + 1 : Nat) : Int) by omega]
        exact hq
      · have hj := t2 k (by omega)
        have hm := hM k (by omega)
        refine ld_a0 iX5_depthOfTerms_14 ?_
        refine gf_X5_terms kFX5_24 iX5_depthOfTerms_15 ?_
        refine ld_i1 iX5_depthOfTerms_18 ?_
        refine al_22 rfl (by omega) iX5_depthOfTerms_19 ?_
        refine ld_i3 iX5_depthOfTerms_20 ?_
        refine al_23 rfl (by omega) iX5_depthOfTerms_21 ?_
        rw [hj.1]
        refine sv_i4 (by decide) rfl iX5_depthOfTerms_22 ?_
        refine ld_i4 iX5_depthOfTerms_24 ?_
        refine r_bipush (by decide) iX5_depthOfTerms_26 ?_
        refine r_icmpge iX5_depthOfTerms_28 (by omega) (by omega) (fun h28 => ?_) (fun h28 => ?_)
        · refine inc_3 (by decide) rfl iX5_depthOfTerms_43 ?_
          refine r_goto iX5_depthOfTerms_46 ?_
          refine fg_4 ?_
          refine ih (n - (k + 1)) (by omega) (k + 1) _ _ rfl (by omega) (by omega) ?_
          rw [dpm]
          first
            | rw [if_neg (by omega)]
            | (rw [if_pos (by omega)]; omega)
        · have hd := hD k (by omega) (by omega)
          refine ld_i2 iX5_depthOfTerms_31 ?_
          refine ld_a0 iX5_depthOfTerms_32 ?_
          refine gf_X5_depths kFX5_30 iX5_depthOfTerms_33 ?_
          refine ld_i4 iX5_depthOfTerms_36 ?_
          refine al_26 rfl (by omega) iX5_depthOfTerms_38 ?_
          rw [hd.1]
          refine xJ9_max_7cf53 kMX5_56 iX5_depthOfTerms_39 (by decide) (Nat.le_of_ble_eq_true rfl) rfl rfl ?_
          refine c_maxI (by omega) (by omega) ?_
          refine sv_i2 (by decide) rfl iX5_depthOfTerms_42 ?_
          refine inc_3 (by decide) rfl iX5_depthOfTerms_43 ?_
          refine r_goto iX5_depthOfTerms_46 ?_
          refine fg_4 ?_
          refine ih (n - (k + 1)) (by omega) (k + 1) _ _ rfl (by omega) (by omega) ?_
          rw [dpm]
          first
            | rw [if_neg (by omega)]
            | (rw [if_pos (by omega)]; omega)
  refine r_iconst iX5_depthOfTerms_0 ?_
  refine sv_i2 (by decide) rfl iX5_depthOfTerms_1 ?_
  refine r_iconst iX5_depthOfTerms_2 ?_
  refine sv_i3 (by decide) rfl iX5_depthOfTerms_3 ?_
  exact loop n 0 _ _ (by omega) (by omega) (by omega) rfl
theorem c_readTerms {A : Nat} {Pq : Int → Nm → Ge → Prop} (ha : a < 7) (hA : A ≤ 6) (hR : Rd N T L p) (h20 : N 20 r 0 = A) (h21 : N 21 r a = 0) (hq : ∀ z N', (z = 0 ∨ z = 1) → FrT r a N N' → Imp (z = 1) (∃ p' n G M, pTerms T L A p = .inr (p', n, G, M) ∧ Rd N' T L p' ∧ RowT N' r a n G M) → Imp (z = 0) (∃ w : Nat, pTerms T L A p = .inl w ∧ N' 1 0 3 = (w : Int)) → Pq z N' g) : Ck K YX4_readTerms hX4_readTerms [vr 1 0, vr 20 r, vi a] N g (qI Pq) := by
  refine Ck.intro 4 (by decide) rfl ?_
  show AW _ _ _ _ _ [some (vr 1 0), some (vr 20 r), some (vi a), none, none, none, none] _ _ _
  have loop : ∀ (f k u : Nat) (sg c : Int) (G : Nat → Int) (M : Nat → Nat) (N' : Nm), k + (f + 1) = 6 → c = k → FrT r a N N' → Rd N' T L u → RowT N' r a k G M → pTm T L A (f + 1) u sg k G M = pTerms T L A p → AW K YX4_readTerms hX4_readTerms (qI Pq) 26 [some (vr 1 0), some (vr 20 r), some (vi a), some (vi sg), some (vi c), none, none] [] N' g := by
    intro f
    induction f using Nat.strongRecOn with
    | _ f ih =>
      intro k u sg c G M N' hk hc hF hR' hT hp
      subst hc
      rw [pTm] at hp
      refine ld_i4 iX4_readTerms_26 ?_
      refine r_bipush (by decide) iX4_readTerms_28 ?_
      refine r_icmpge iX4_readTerms_30 (by omega) (by omega) (fun h30 => ?_) (fun h30 => ?_)
      · exfalso; omega
      · refine ld_a0 iX4_readTerms_33 ?_
        refine xX4_look kMX4_34 iX4_readTerms_34 (by decide) (Nat.le_of_ble_eq_true rfl) rfl rfl ?_
        refine c_look hR' (fun N1 f1 e1 => ?_)
        have hb := tat_r e1.1 (sk T L u)
        refine ld_a1 iX4_readTerms_37 ?_
        refine gf_X5_accounts kFX4_46 iX4_readTerms_38 ?_
        rw [(hF.tr (f1.t r a)) 20 r 0 (by omega) (by omega) (by omega), h20]
        refine xX4_termOf kMX4_84 iX4_readTerms_41 (by decide) (Nat.le_of_ble_eq_true rfl) rfl rfl ?_
        refine c_termOf hb hA (fun z hz z0 z1 => ?_)
        refine sv_i5 (by decide) rfl iX4_readTerms_44 ?_
        refine ld_i5 iX4_readTerms_46 ?_
        refine r_iconst iX4_readTerms_48 ?_
        refine r_icmpne iX4_readTerms_49 (by omega) (by omega) (fun h49 => ?_) (fun h49 => ?_)
        · obtain ⟨t, rfl, z2⟩ := z1 (by omega)
          have hin := tat_in (tmc_ok z2).2.1
          rw [z2] at hp
          simp only at hp
          refine ld_a1 iX4_readTerms_61 ?_
          refine ld_i2 iX4_readTerms_62 ?_
          refine ld_i5 iX4_readTerms_63 ?_
          refine ld_i3 iX4_readTerms_65 ?_
          refine xX5_addTerm kMX4_87 iX4_readTerms_66 (by decide) (Nat.le_of_ble_eq_true rfl) rfl rfl ?_
          refine c_addTerm ha (by omega) (hT.c f1) (fun N2 f2 g2 e2 => ?_)
          have e1' := e1.t (r := r) (a := a) g2
          refine ld_a0 iX4_readTerms_69 ?_
          refine r_dup rfl iX4_readTerms_70 ?_
          refine gf_X4_place kFX4_19 iX4_readTerms_71 ?_
          rw [e1'.2.1]
          refine r_iconst iX4_readTerms_74 ?_
          refine r_iadd iX4_readTerms_75 ?_
          refine pf_X4_place kFX4_19 iX4_readTerms_76 ?_
          refine ld_a0 iX4_readTerms_79 ?_
          refine xX4_look kMX4_34 iX4_readTerms_80 (by decide) (Nat.le_of_ble_eq_true rfl) rfl rfl ?_
          refine c_look (e1'.go (q := sk T L u + 1) (by omega) (by omega) rfl) (fun N3 f3 e3 => ?_)
          have hb3 := tat_r e3.1 (sk T L (sk T L u + 1))
          have hF3 : FrT r a N N3 := ((hF.tr (f1.t r a)).tr f2).tr ((((FrC.rf N2).up (by omega)).tr f3).t r a)
          have e4 := (e2.c ((FrC.rf N2).up (i := 0) (v := ((sk T L u : Nat) : Int) + 1) (Or.inl rfl))).c f3
          refine sv_i6 (by decide) rfl iX4_readTerms_83 ?_
          refine ld_i6 iX4_readTerms_85 ?_
          refine r_bipush (by decide) iX4_readTerms_87 ?_
          refine r_icmpeq iX4_readTerms_89 (by omega) (by omega) (fun h89 => ?_) (fun h89 => ?_)
          · refine ld_i4 iX4_readTerms_101 ?_
            refine r_iconst iX4_readTerms_103 ?_
            refine r_iadd iX4_readTerms_104 ?_
            refine r_bipush (by decide) iX4_readTerms_105 ?_
            refine r_icmpne iX4_readTerms_107 (by omega) (by omega) (fun h107 => ?_) (fun h107 => ?_)
            · have hlt := tat_in (T := T) (L := L) (p := sk T L (sk T L u + 1)) (by omega)
              refine ld_i6 iX4_readTerms_119 ?_
              refine r_bipush (by decide) iX4_readTerms_121 ?_
              refine r_icmpne iX4_readTerms_123 (by omega) (by omega) (fun h123 => ?_) (fun h123 => ?_)
              · refine r_iconst iX4_readTerms_130 ?_
                refine sv_i3 (by decide) rfl iX4_readTerms_131 ?_
                refine ld_a0 iX4_readTerms_132 ?_
                refine r_dup rfl iX4_readTerms_133 ?_
                refine gf_X4_place kFX4_19 iX4_readTerms_134 ?_
                rw [e3.2.1]
                refine r_iconst iX4_readTerms_137 ?_
                refine r_iadd iX4_readTerms_138 ?_
                refine pf_X4_place kFX4_19 iX4_readTerms_139 ?_
                refine inc_4 (by decide) rfl iX4_readTerms_142 ?_
                refine r_goto iX4_readTerms_145 ?_
                refine fg_6 (fg_5 ?_)
                obtain ⟨f', rfl⟩ : ∃ f', f = f' + 1 := ⟨f - 1, by omega⟩
                rw [if_pos (by omega), if_neg (by omega)] at hp
                first
                  | (rw [if_pos (by omega)] at hp; exact ih f' (by omega) (k + 1) (sk T L (sk T L u + 1) + 1) _ _ _ _ _ (by omega) (by omega) (hF3.tr (((FrC.rf N3).up (by omega)).t r a)) (e3.go (by omega) (by omega) rfl) (e4.c ((FrC.rf N3).up (by omega))) hp)
                  | (rw [if_neg (by omega)] at hp; exact ih f' (by omega) (k + 1) (sk T L (sk T L u + 1) + 1) _ _ _ _ _ (by omega) (by omega) (hF3.tr (((FrC.rf N3).up (by omega)).t r a)) (e3.go (by omega) (by omega) rfl) (e4.c ((FrC.rf N3).up (by omega))) hp)
              · refine r_iconst iX4_readTerms_126 ?_
                refine r_goto iX4_readTerms_127 ?_
                refine sv_i3 (by decide) rfl iX4_readTerms_131 ?_
                refine ld_a0 iX4_readTerms_132 ?_
                refine r_dup rfl iX4_readTerms_133 ?_
                refine gf_X4_place kFX4_19 iX4_readTerms_134 ?_
                rw [e3.2.1]
                refine r_iconst iX4_readTerms_137 ?_
                refine r_iadd iX4_readTerms_138 ?_
                refine pf_X4_place kFX4_19 iX4_readTerms_139 ?_
                refine inc_4 (by decide) rfl iX4_readTerms_142 ?_
                refine r_goto iX4_readTerms_145 ?_
                refine fg_6 (fg_5 ?_)
                obtain ⟨f', rfl⟩ : ∃ f', f = f' + 1 := ⟨f - 1, by omega⟩
                rw [if_pos (by omega), if_neg (by omega)] at hp
                first
                  | (rw [if_pos (by omega)] at hp; exact ih f' (by omega) (k + 1) (sk T L (sk T L u + 1) + 1) _ _ _ _ _ (by omega) (by omega) (hF3.tr (((FrC.rf N3).up (by omega)).t r a)) (e3.go (by omega) (by omega) rfl) (e4.c ((FrC.rf N3).up (by omega))) hp)
                  | (rw [if_neg (by omega)] at hp; exact ih f' (by omega) (k + 1) (sk T L (sk T L u + 1) + 1) _ _ _ _ _ (by omega) (by omega) (hF3.tr (((FrC.rf N3).up (by omega)).t r a)) (e3.go (by omega) (by omega) rfl) (e4.c ((FrC.rf N3).up (by omega))) hp)
            · rw [if_pos (by omega), if_pos (by omega)] at hp
              refine ld_a0 iX4_readTerms_110 ?_
              refine ld_a0 iX4_readTerms_111 ?_
              refine gf_X4_place kFX4_19 iX4_readTerms_112 ?_
              rw [e3.2.1]
              refine xX4_fail kMX4_52 iX4_readTerms_115 (by decide) (Nat.le_of_ble_eq_true rfl) rfl rfl ?_
              refine c_fail ?_
              refine t_bool rfl (by omega) iX4_readTerms_118 ?_
              exact hq 0 _ (by omega) (hF3.tr (((FrC.rf N3).up (by omega)).t r a)) (fun z => by omega) (fun _ => ⟨_, hp.symm, upN_eq _ _ _ _ _⟩)
          · refine ld_i6 iX4_readTerms_92 ?_
            refine r_bipush (by decide) iX4_readTerms_94 ?_
            refine r_icmpeq iX4_readTerms_96 (by omega) (by omega) (fun h96 => ?_) (fun h96 => ?_)
            · refine ld_i4 iX4_readTerms_101 ?_
              refine r_iconst iX4_readTerms_103 ?_
              refine r_iadd iX4_readTerms_104 ?_
              refine r_bipush (by decide) iX4_readTerms_105 ?_
              refine r_icmpne iX4_readTerms_107 (by omega) (by omega) (fun h107 => ?_) (fun h107 => ?_)
              · have hlt := tat_in (T := T) (L := L) (p := sk T L (sk T L u + 1)) (by omega)
                refine ld_i6 iX4_readTerms_119 ?_
                refine r_bipush (by decide) iX4_readTerms_121 ?_
                refine r_icmpne iX4_readTerms_123 (by omega) (by omega) (fun h123 => ?_) (fun h123 => ?_)
                · refine r_iconst iX4_readTerms_130 ?_
                  refine sv_i3 (by decide) rfl iX4_readTerms_131 ?_
                  refine ld_a0 iX4_readTerms_132 ?_
                  refine r_dup rfl iX4_readTerms_133 ?_
                  refine gf_X4_place kFX4_19 iX4_readTerms_134 ?_
                  rw [e3.2.1]
                  refine r_iconst iX4_readTerms_137 ?_
                  refine r_iadd iX4_readTerms_138 ?_
                  refine pf_X4_place kFX4_19 iX4_readTerms_139 ?_
                  refine inc_4 (by decide) rfl iX4_readTerms_142 ?_
                  refine r_goto iX4_readTerms_145 ?_
                  refine fg_6 (fg_5 ?_)
                  obtain ⟨f', rfl⟩ : ∃ f', f = f' + 1 := ⟨f - 1, by omega⟩
                  rw [if_pos (by omega), if_neg (by omega)] at hp
                  first
                    | (rw [if_pos (by omega)] at hp; exact ih f' (by omega) (k + 1) (sk T L (sk T L u + 1) + 1) _ _ _ _ _ (by omega) (by omega) (hF3.tr (((FrC.rf N3).up (by omega)).t r a)) (e3.go (by omega) (by omega) rfl) (e4.c ((FrC.rf N3).up (by omega))) hp)
                    | (rw [if_neg (by omega)] at hp; exact ih f' (by omega) (k + 1) (sk T L (sk T L u + 1) + 1) _ _ _ _ _ (by omega) (by omega) (hF3.tr (((FrC.rf N3).up (by omega)).t r a)) (e3.go (by omega) (by omega) rfl) (e4.c ((FrC.rf N3).up (by omega))) hp)
                · refine r_iconst iX4_readTerms_126 ?_
                  refine r_goto iX4_readTerms_127 ?_
                  refine sv_i3 (by decide) rfl iX4_readTerms_131 ?_
                  refine ld_a0 iX4_readTerms_132 ?_
                  refine r_dup rfl iX4_readTerms_133 ?_
                  refine gf_X4_place kFX4_19 iX4_readTerms_134 ?_
                  rw [e3.2.1]
                  refine r_iconst iX4_readTerms_137 ?_
                  refine r_iadd iX4_readTerms_138 ?_
                  refine pf_X4_place kFX4_19 iX4_readTerms_139 ?_
                  refine inc_4 (by decide) rfl iX4_readTerms_142 ?_
                  refine r_goto iX4_readTerms_145 ?_
                  refine fg_6 (fg_5 ?_)
                  obtain ⟨f', rfl⟩ : ∃ f', f = f' + 1 := ⟨f - 1, by omega⟩
                  rw [if_pos (by omega), if_neg (by omega)] at hp
                  first
                    | (rw [if_pos (by omega)] at hp; exact ih f' (by omega) (k + 1) (sk T L (sk T L u + 1) + 1) _ _ _ _ _ (by omega) (by omega) (hF3.tr (((FrC.rf N3).up (by omega)).t r a)) (e3.go (by omega) (by omega) rfl) (e4.c ((FrC.rf N3).up (by omega))) hp)
                    | (rw [if_neg (by omega)] at hp; exact ih f' (by omega) (k + 1) (sk T L (sk T L u + 1) + 1) _ _ _ _ _ (by omega) (by omega) (hF3.tr (((FrC.rf N3).up (by omega)).t r a)) (e3.go (by omega) (by omega) rfl) (e4.c ((FrC.rf N3).up (by omega))) hp)
              · rw [if_pos (by omega), if_pos (by omega)] at hp
                refine ld_a0 iX4_readTerms_110 ?_
                refine ld_a0 iX4_readTerms_111 ?_
                refine gf_X4_place kFX4_19 iX4_readTerms_112 ?_
                rw [e3.2.1]
                refine xX4_fail kMX4_52 iX4_readTerms_115 (by decide) (Nat.le_of_ble_eq_true rfl) rfl rfl ?_
                refine c_fail ?_
                refine t_bool rfl (by omega) iX4_readTerms_118 ?_
                exact hq 0 _ (by omega) (hF3.tr (((FrC.rf N3).up (by omega)).t r a)) (fun z => by omega) (fun _ => ⟨_, hp.symm, upN_eq _ _ _ _ _⟩)
            · refine r_iconst iX4_readTerms_99 ?_
              refine t_bool rfl (by omega) iX4_readTerms_100 ?_
              rw [if_neg (by omega)] at hp
              exact hq 1 N3 (by omega) hF3 (fun _ => ⟨_, _, _, _, hp.symm, e3, e4⟩) (fun z => by omega)
        · have z0 := z0 (by omega)
          rw [z0] at hp
          refine ld_a0 iX4_readTerms_52 ?_
          refine ld_a0 iX4_readTerms_53 ?_
          refine gf_X4_place kFX4_19 iX4_readTerms_54 ?_
          rw [e1.2.1]
          refine xX4_fail kMX4_52 iX4_readTerms_57 (by decide) (Nat.le_of_ble_eq_true rfl) rfl rfl ?_
          refine c_fail ?_
          refine t_bool rfl (by omega) iX4_readTerms_60 ?_
          exact hq 0 _ (by omega) (hF.tr ((f1.up (by omega)).t r a)) (fun z => by omega) (fun _ => ⟨_, hp.symm, upN_eq _ _ _ _ _⟩)
  refine r_iconst iX4_readTerms_0 ?_
  refine sv_i3 (by decide) rfl iX4_readTerms_1 ?_
  refine ld_a0 iX4_readTerms_2 ?_
  refine xX4_look kMX4_34 iX4_readTerms_3 (by decide) (Nat.le_of_ble_eq_true rfl) rfl rfl ?_
  refine c_look hR (fun N1 f1 e1 => ?_)
  have hb := tat_r e1.1 (sk T L p)
  have hT0 : ∀ N', FrC N N' → RowT N' r a 0 (fun _ => 0) (fun _ => 0) := fun N' f => ⟨by rw [f 21 _ _ (by omega)]; exact h21, fun j hj => by omega⟩
  refine r_bipush (by decide) iX4_readTerms_6 ?_
  refine r_icmpne iX4_readTerms_8 (by omega) (by omega) (fun h8 => ?_) (fun h8 => ?_)
  · refine r_iconst iX4_readTerms_23 ?_
    refine sv_i4 (by decide) rfl iX4_readTerms_24 ?_
    first
      | exact loop 5 0 (sk T L p + 1) _ _ _ _ _ (by omega) (by omega) ((f1.up (by omega)).t r a) (e1.go (by omega) (by omega) rfl) (hT0 _ (f1.up (by omega))) (by unfold pTerms; rw [if_pos (by omega)])
      | exact loop 5 0 _ _ _ _ _ _ (by omega) (by omega) (f1.t r a) e1 (hT0 _ f1) (by unfold pTerms; rw [if_neg (by omega)])
  · have hlt := tat_in (T := T) (L := L) (p := sk T L p) (by omega)
    refine r_iconst iX4_readTerms_11 ?_
    refine sv_i3 (by decide) rfl iX4_readTerms_12 ?_
    refine ld_a0 iX4_readTerms_13 ?_
    refine r_dup rfl iX4_readTerms_14 ?_
    refine gf_X4_place kFX4_19 iX4_readTerms_15 ?_
    rw [e1.2.1]
    refine r_iconst iX4_readTerms_18 ?_
    refine r_iadd iX4_readTerms_19 ?_
    refine pf_X4_place kFX4_19 iX4_readTerms_20 ?_
    refine r_iconst iX4_readTerms_23 ?_
    refine sv_i4 (by decide) rfl iX4_readTerms_24 ?_
    first
      | exact loop 5 0 (sk T L p + 1) _ _ _ _ _ (by omega) (by omega) ((f1.up (by omega)).t r a) (e1.go (by omega) (by omega) rfl) (hT0 _ (f1.up (by omega))) (by unfold pTerms; rw [if_pos (by omega)])
      | exact loop 5 0 _ _ _ _ _ _ (by omega) (by omega) (f1.t r a) e1 (hT0 _ f1) (by unfold pTerms; rw [if_neg (by omega)])
end Read8
