/-! own text: the reference reads numbers, terms -/
theorem isD_tat {T : Nat → Int} {L q : Nat} : (48 ≤ tat T L q ∧ tat T L q ≤ 57) ↔ isD T L q := by
  unfold tat
  constructor
  · intro h
    split at h
    · rename_i c; exact ⟨c, h.1, h.2⟩
    · omega
  · intro h
    rw [if_pos h.1]; exact h.2
/-- what a number comes to -/
def NuE (P : Nat ⊕ (Nat × Int)) (p' : Nat) (z w' : Int) : Prop := (w' = -1 ∧ P = .inr (p', z)) ∨ ∃ w : Nat, P = .inl w ∧ w' = (w : Int)
/-- the reference's row a has these n terms -/
def RowMT (N : Nm) (a n : Nat) (G : Nat → Int) (M : Nat → Nat) : Prop := N 42 0 a = n ∧ ∀ j, j < n → N 46 0 (6 * a + j) = cod (M j) ∧ N 44 0 (6 * a + j) = G j
def FrMT (a : Nat) (N N' : Nm) : Prop := ∀ k i j, ¬ (k = 40 ∧ (j = 3 ∨ j = 4)) → ¬ (k = 42 ∧ j = a) → ¬ ((k = 44 ∨ k = 46) ∧ 6 * a ≤ j ∧ j < 6 * a + 6) → N' k i j = N k i j
theorem FrMT.rf (a : Nat) (N : Nm) : FrMT a N N := fun _ _ _ _ _ _ => rfl
theorem FrMT.tr {a : Nat} {A B C : Nm} (h1 : FrMT a A B) (h2 : FrMT a B C) : FrMT a A C := fun k i j q z y => (h2 k i j q z y).trans (h1 k i j q z y)
theorem FrM.t {A B : Nm} (h : FrM A B) (a : Nat) : FrMT a A B := fun k i j q _ _ => h k i j q
theorem RowMT.of {N N' : Nm} {a n : Nat} {G : Nat → Int} {M : Nat → Nat} (h : RowMT N a n G M) (f : ∀ k i j, 42 ≤ k → k ≤ 46 → N' k i j = N k i j) : RowMT N' a n G M := ⟨by rw [f 42 _ _ (by omega) (by omega)]; exact h.1, fun j hj => by rw [f 46 _ _ (by omega) (by omega), f 44 _ _ (by omega) (by omega)]; exact h.2 j hj⟩
theorem RowMT.m {N N' : Nm} {a n : Nat} {G : Nat → Int} {M : Nat → Nat} (h : RowMT N a n G M) (f : FrM N N') : RowMT N' a n G M := h.of (fun k i j z1 z2 => f k i j (by omega))
theorem cod_r {t A : Nat} (h : t = 6 ∨ t = 7 ∨ t < A) (hA : A ≤ 6) : 0 ≤ cod t ∧ cod t ≤ 8 := by have := cod_cs t; omega
/-- what a term comes to -/
def TmE (N' : Nm) (a n : Nat) (G : Nat → Int) (M : Nat → Nat) (o : Option Nat) (q : Nat) (sg : Int) (p' : Nat) (w' : Int) : Prop := (o = none ∧ w' = (q : Int) ∧ RowMT N' a n G M) ∨ ∃ t, o = some t ∧ w' = -1 ∧ p' = q + 1 ∧ RowMT N' a (n + 1) (upf G n sg) (upf M n t)
/-- a term's letter as the reference tells it -/
def LtE (o : Option Nat) (z : Int) : Prop := (o = none ∧ z = -1) ∨ ∃ t, o = some t ∧ z = cod t
section MRead8
variable {K : Kx} {N : Nm} {g : Ge} {T : Nat → Int} {L p a n A : Nat} {w : Int} {G : Nat → Int} {M : Nat → Nat}
theorem c_mNumber1 {lo hi : Int} {Pq : Int → Nm → Ge → Prop} (hl : 0 ≤ lo ∧ lo ≤ 20000) (hh : 0 ≤ hi ∧ hi ≤ 20000) (hR : Me N T L p (-1)) (hq : ∀ z p' w' N', (0 ≤ z ∧ z ≤ 20000) → FrM N N' → Me N' T L p' w' → NuE (pNum T L p lo hi) p' z w' → Pq z N' g) : Ck K YX10_number hX10_number [vr 40 0, vi lo, vi hi] N g (qI Pq) := by
  have r3 := hR.2.2.2.1
  have hb := mtat_r hR.1 (sk T L p)
  refine Ck.intro 2 (by decide) rfl ?_
  show AW _ _ _ _ _ [some (vr 40 0), some (vi lo), some (vi hi), none, none] _ _ _
  have loop : isD T L (sk T L p) → ∀ (n k : Nat) (v c : Int) (N' : Nm), 4 - k = n → k ≤ 4 → c = k → v = dgv T (sk T L p) k → (∀ i, i < k → isD T L (sk T L p + i)) → FrM N N' → Me N' T L (sk T L p + k) (-1) → AW K YX10_number hX10_number (qI Pq) 29 [some (vr 40 0), some (vi lo), some (vi hi), some (vi v), some (vi c)] [] N' g := by
    intro h0 n
    induction n using Nat.strongRecOn with
    | _ n ih =>
      intro k v c N' e hk hc hv hd hF hR'
      subst hc
      obtain ⟨hT, r1, r2, r3, r4⟩ := id hR'
      have t2 := hT.2.1
      have vb := dgv_b hk hd
      have hb := mtat_r hT (sk T L p + k)
      rw [← hv] at vb
      have t74 : (k = 4 ∨ ¬ isD T L (sk T L p + k)) → AW K YX10_number hX10_number (qI Pq) 74 [some (vr 40 0), some (vi lo), some (vi hi), some (vi v), some (vi k)] [] N' g := by
        intro hx
        have hk0 : k ≠ 0 := by
          intro z; subst z
          rcases hx with z | z
          · omega
          · exact z h0
        have hg := dgc_eq 4 (sk T L p) k hd hk hx
        have hp : pNum T L p lo hi = if k = 0 ∨ isD T L (sk T L p + k) then .inl (sk T L p + k) else if v < lo ∨ hi < v then .inl (sk T L p + k - 1) else .inr (sk T L p + k, v) := by unfold pNum; rw [hg, hv]
        clear hx hg
        refine ld_a0 iX10_number_74 ?_
        refine xX10_here kMX10_89 iX10_number_75 (by decide) (Nat.le_of_ble_eq_true rfl) rfl rfl ?_
        refine c_mHere hR' ?_
        refine xX10_isDigit kMX10_106 iX10_number_78 (by decide) (Nat.le_of_ble_eq_true rfl) rfl rfl ?_
        refine c_mDigit hb ?_
        refine r_ifeq iX10_number_81 (by exact tf_r _) (fun h81 => ?_) (fun h81 => ?_)
        · have h81 := fun z => tf_n h81 (isD_tat.mpr z)
          have hn : ¬ (k = 0 ∨ isD T L (sk T L p + k)) := fun z => z.elim (fun z => hk0 z) h81
          rw [if_neg hn] at hp
          clear hn
          refine ld_i3 iX10_number_91 ?_
          refine r_i2l (by omega) iX10_number_92 ?_
          refine ld_i1 iX10_number_93 ?_
          refine r_i2l (by omega) iX10_number_94 ?_
          refine ld_i2 iX10_number_95 ?_
          refine r_i2l (by omega) iX10_number_96 ?_
          refine xX10_in kMX10_82 iX10_number_97 (by decide) (Nat.le_of_ble_eq_true rfl) rfl rfl ?_
          refine c_in (by omega) (by omega) (by omega) ?_
          refine r_ifne iX10_number_100 (by exact tf_r _) (fun h100 => ?_) (fun h100 => ?_)
          · have h100 := tf_y h100
            rw [if_neg (by omega)] at hp
            refine ld_i3 iX10_number_117 ?_
            refine t_int rfl iX10_number_118 ?_
            first
              | exact hq _ _ _ N2 (by omega) (hF.tr f2) e2 (Or.inr ⟨_, hp, rfl⟩)
              | exact hq _ _ _ N' (by omega) hF hR' (Or.inl ⟨rfl, hp⟩)
              | exact hq _ _ _ N2 (by omega) ((hF.up (by omega)).tr f2) e2 (Or.inr ⟨_, hp, rfl⟩)
          · have h100 := tf_n h100
            rw [if_pos (by omega)] at hp
            refine ld_a0 iX10_number_103 ?_
            refine r_dup rfl iX10_number_104 ?_
            refine gf_X10_at kFX10_86 iX10_number_105 ?_
            rw [r1]
            refine r_iconst iX10_number_108 ?_
            refine r_isub iX10_number_109 ?_
            refine pf_X10_at kFX10_86 iX10_number_110 ?_
            refine ld_a0 iX10_number_113 ?_
            refine xX10_bad kMX10_103 iX10_number_114 (by decide) (Nat.le_of_ble_eq_true rfl) rfl rfl ?_
            refine c_mBad1 (hR'.go (q := sk T L p + k - 1) (by omega) (by omega) rfl) (fun N2 f2 e2 => ?_)
            refine ld_i3 iX10_number_117 ?_
            refine t_int rfl iX10_number_118 ?_
            first
              | exact hq _ _ _ N2 (by omega) (hF.tr f2) e2 (Or.inr ⟨_, hp, rfl⟩)
              | exact hq _ _ _ N' (by omega) hF hR' (Or.inl ⟨rfl, hp⟩)
              | exact hq _ _ _ N2 (by omega) ((hF.up (by omega)).tr f2) e2 (Or.inr ⟨_, hp, rfl⟩)
        · have h81 := isD_tat.mp (tf_y h81)
          rw [if_pos (Or.inr h81)] at hp
          refine ld_a0 iX10_number_84 ?_
          refine xX10_bad kMX10_103 iX10_number_85 (by decide) (Nat.le_of_ble_eq_true rfl) rfl rfl ?_
          refine c_mBad1 hR' (fun N2 f2 e2 => ?_)
          refine r_goto iX10_number_88 ?_
          refine ld_i3 iX10_number_117 ?_
          refine t_int rfl iX10_number_118 ?_
          first
            | exact hq _ _ _ N2 (by omega) (hF.tr f2) e2 (Or.inr ⟨_, hp, rfl⟩)
            | exact hq _ _ _ N' (by omega) hF hR' (Or.inl ⟨rfl, hp⟩)
            | exact hq _ _ _ N2 (by omega) ((hF.up (by omega)).tr f2) e2 (Or.inr ⟨_, hp, rfl⟩)
      refine ld_i4 iX10_number_29 ?_
      refine r_iconst iX10_number_31 ?_
      refine r_icmpge iX10_number_32 (by omega) (by omega) (fun h32 => ?_) (fun h32 => ?_)
      · first
          | exact t74 (Or.inl (by omega))
          | exact t74 (Or.inr h42)
      · refine ld_a0 iX10_number_35 ?_
        refine xX10_here kMX10_89 iX10_number_36 (by decide) (Nat.le_of_ble_eq_true rfl) rfl rfl ?_
        refine c_mHere hR' ?_
        refine xX10_isDigit kMX10_106 iX10_number_39 (by decide) (Nat.le_of_ble_eq_true rfl) rfl rfl ?_
        refine c_mDigit hb ?_
        refine r_ifeq iX10_number_42 (by exact tf_r _) (fun h42 => ?_) (fun h42 => ?_)
        · have h42 := fun z => tf_n h42 (isD_tat.mpr z)
          first
            | exact t74 (Or.inl (by omega))
            | exact t74 (Or.inr h42)
        · have h42 := isD_tat.mp (tf_y h42)
          have htt : tat T L (sk T L p + k) = T (sk T L p + k) := by unfold tat; rw [if_pos h42.1]
          refine r_bipush (by decide) iX10_number_45 ?_
          refine ld_i3 iX10_number_47 ?_
          refine r_imul iX10_number_48 ?_
          refine ld_a0 iX10_number_49 ?_
          refine xX10_here kMX10_89 iX10_number_50 (by decide) (Nat.le_of_ble_eq_true rfl) rfl rfl ?_
          refine c_mHere hR' ?_
          rw [htt]
          refine r_iadd iX10_number_53 ?_
          refine r_bipush (by decide) iX10_number_54 ?_
          refine r_isub iX10_number_56 ?_
          refine sv_i3 (by decide) rfl iX10_number_57 ?_
          refine ld_a0 iX10_number_58 ?_
          refine r_dup rfl iX10_number_59 ?_
          refine gf_X10_at kFX10_86 iX10_number_60 ?_
          rw [r1]
          refine r_iconst iX10_number_63 ?_
          refine r_iadd iX10_number_64 ?_
          refine pf_X10_at kFX10_86 iX10_number_65 ?_
          refine inc_4 (by decide) rfl iX10_number_68 ?_
          refine r_goto iX10_number_71 ?_
          refine ih (4 - (k + 1)) (by omega) (k + 1) _ _ _ rfl (by omega) (by omega) (by rw [dgv, ← hv]) (fun i hi => ?_) (hF.up (by omega)) (hR'.go (by omega) (by omega) rfl)
          by_cases z : i = k
          · rw [z]; exact h42
          · exact hd i (by omega)
  refine ld_a0 iX10_number_0 ?_
  refine gf_X10_wrong kFX10_93 iX10_number_1 ?_
  rw [r3]
  refine r_iconst iX10_number_4 ?_
  refine r_icmpne iX10_number_5 (by omega) (by omega) (fun h5 => ?_) (fun h5 => ?_)
  · exfalso; omega
  · refine ld_a0 iX10_number_8 ?_
    refine xX10_ahead kMX10_100 iX10_number_9 (by decide) (Nat.le_of_ble_eq_true rfl) rfl rfl ?_
    refine c_mAhead hR (fun N1 f1 e1 => ?_)
    refine xX10_isDigit kMX10_106 iX10_number_12 (by decide) (Nat.le_of_ble_eq_true rfl) rfl rfl ?_
    refine c_mDigit hb ?_
    refine r_ifne iX10_number_15 (by exact tf_r _) (fun h15 => ?_) (fun h15 => ?_)
    · have h15 := isD_tat.mp (tf_y h15)
      refine r_iconst iX10_number_24 ?_
      refine sv_i3 (by decide) rfl iX10_number_25 ?_
      refine r_iconst iX10_number_26 ?_
      refine sv_i4 (by decide) rfl iX10_number_27 ?_
      exact loop h15 4 0 _ _ N1 (by omega) (by omega) (by omega) rfl (fun i hi => by omega) f1 e1
    · have h15 := fun z => tf_n h15 (isD_tat.mpr z)
      have hg := dgc_eq (T := T) (L := L) 4 (sk T L p) 0 (fun i hi => by omega) (by omega) (Or.inr h15)
      have hp : pNum T L p lo hi = .inl (sk T L p) := by unfold pNum; rw [hg, if_pos (Or.inl rfl)]; rfl
      clear hg h15
      refine ld_a0 iX10_number_18 ?_
      refine xX10_bad kMX10_103 iX10_number_19 (by decide) (Nat.le_of_ble_eq_true rfl) rfl rfl ?_
      refine c_mBad1 e1 (fun N2 f2 e2 => ?_)
      refine ld_i1 iX10_number_22 ?_
      refine t_int rfl iX10_number_23 ?_
      exact hq _ _ _ N2 (by omega) (f1.tr f2) e2 (Or.inr ⟨_, hp, rfl⟩)
theorem c_mReadTerm0 {sg : Int} {Pq : Nm → Ge → Prop} (hR : Me N T L p w) (hw : w ≠ -1) (h17 : N 40 0 17 = A) (hA : A ≤ 6) (hq : ∀ N', FrM N N' → Me N' T L (sk T L p) w → Pq N' g) : Ck K YX10_readTerm hX10_readTerm [vr 40 0, vi a, vi sg] N g (qV Pq) := by
  have hb := mtat_r hR.1 (sk T L p)
  refine Ck.intro 3 (by decide) rfl ?_
  show AW _ _ _ _ _ [some (vr 40 0), some (vi a), some (vi sg), none, none, none] _ _ _
  have t52 : ∀ (z : Int) (N1 : Nm), FrM N N1 → Me N1 T L (sk T L p) w → AW K YX10_readTerm hX10_readTerm (qV Pq) 52 [some (vr 40 0), some (vi a), some (vi sg), some (vi (tat T L (sk T L p))), none, none] [vi z] N1 g := by
    intro z N1 f1 e1
    have r3 := e1.2.2.2.1
    have r4 := e1.2.2.2.2
    refine sv_i4 (by decide) rfl iX10_readTerm_52 ?_
    refine ld_a0 iX10_readTerm_54 ?_
    refine gf_X10_wrong kFX10_93 iX10_readTerm_55 ?_
    rw [r3]
    refine r_iconst iX10_readTerm_58 ?_
    refine r_icmpne iX10_readTerm_59 (by omega) (by omega) (fun h59 => ?_) (fun h59 => ?_)
    · refine ld_a0 iX10_readTerm_68 ?_
      refine xX10_bad kMX10_103 iX10_readTerm_69 (by decide) (Nat.le_of_ble_eq_true rfl) rfl rfl ?_
      refine c_mBad0 e1 hw (fun N2 f2 e2 => ?_)
      refine t_void rfl iX10_readTerm_72 ?_
      exact hq N2 (f1.tr f2) e2
    · exfalso; omega
  refine ld_a0 iX10_readTerm_0 ?_
  refine xX10_ahead kMX10_100 iX10_readTerm_1 (by decide) (Nat.le_of_ble_eq_true rfl) rfl rfl ?_
  refine c_mAhead hR (fun N1 f1 e1 => ?_)
  refine sv_i3 (by decide) rfl iX10_readTerm_4 ?_
  refine ld_i3 iX10_readTerm_5 ?_
  refine r_bipush (by decide) iX10_readTerm_6 ?_
  refine r_icmpne iX10_readTerm_8 (by omega) (by omega) (fun h8 => ?_) (fun h8 => ?_)
  · refine ld_i3 iX10_readTerm_15 ?_
    refine r_bipush (by decide) iX10_readTerm_16 ?_
    refine r_icmpne iX10_readTerm_18 (by omega) (by omega) (fun h18 => ?_) (fun h18 => ?_)
    · refine ld_i3 iX10_readTerm_25 ?_
      refine r_bipush (by decide) iX10_readTerm_26 ?_
      refine r_icmplt iX10_readTerm_28 (by omega) (by omega) (fun h28 => ?_) (fun h28 => ?_)
      · refine r_iconst iX10_readTerm_51 ?_
        exact t52 _ N1 f1 e1
      · refine ld_i3 iX10_readTerm_31 ?_
        refine r_bipush (by decide) iX10_readTerm_32 ?_
        refine ld_a0 iX10_readTerm_34 ?_
        refine gf_X10_readAccounts kFX10_110 iX10_readTerm_35 ?_
        rw [f1 40 0 17 (by omega), h17]
        refine r_iadd iX10_readTerm_38 ?_
        refine r_icmpge iX10_readTerm_39 (by omega) (by omega) (fun h39 => ?_) (fun h39 => ?_)
        · refine r_iconst iX10_readTerm_51 ?_
          exact t52 _ N1 f1 e1
        · refine r_iconst iX10_readTerm_42 ?_
          refine ld_i3 iX10_readTerm_43 ?_
          refine r_iadd iX10_readTerm_44 ?_
          refine r_bipush (by decide) iX10_readTerm_45 ?_
          refine r_isub iX10_readTerm_47 ?_
          refine r_goto iX10_readTerm_48 ?_
          exact t52 _ N1 f1 e1
    · refine r_iconst iX10_readTerm_21 ?_
      refine r_goto iX10_readTerm_22 ?_
      exact t52 _ N1 f1 e1
  · refine r_iconst iX10_readTerm_11 ?_
    refine r_goto iX10_readTerm_12 ?_
    exact t52 _ N1 f1 e1
theorem c_mReadTerm1 {sg : Int} {Pq : Nm → Ge → Prop} (ha : a < 7) (hn : n < 6) (hR : Me N T L p (-1)) (h17 : N 40 0 17 = A) (hA : A ≤ 6) (hT : RowMT N a n G M) (hq : ∀ p' w' N', FrMT a N N' → Me N' T L p' w' → TmE N' a n G M (tmc (tat T L (sk T L p)) A) (sk T L p) sg p' w' → Pq N' g) : Ck K YX10_readTerm hX10_readTerm [vr 40 0, vi a, vi sg] N g (qV Pq) := by
  have hb := mtat_r hR.1 (sk T L p)
  refine Ck.intro 3 (by decide) rfl ?_
  show AW _ _ _ _ _ [some (vr 40 0), some (vi a), some (vi sg), none, none, none] _ _ _
  have t52 : ∀ (z : Int) (N1 : Nm), FrM N N1 → Me N1 T L (sk T L p) (-1) → LtE (tmc (tat T L (sk T L p)) A) z → AW K YX10_readTerm hX10_readTerm (qV Pq) 52 [some (vr 40 0), some (vi a), some (vi sg), some (vi (tat T L (sk T L p))), none, none] [vi z] N1 g := by
    intro z N1 f1 e1 hz
    have r3 := e1.2.2.2.1
    have hT1 := hT.m f1
    have hzr : -1 ≤ z ∧ z ≤ 8 := by
      rcases hz with ⟨-, y⟩ | ⟨t, ht, y⟩
      · omega
      · have := cod_r (tmc_ok ht).1 hA; omega
    refine sv_i4 (by decide) rfl iX10_readTerm_52 ?_
    refine ld_a0 iX10_readTerm_54 ?_
    refine gf_X10_wrong kFX10_93 iX10_readTerm_55 ?_
    rw [r3]
    refine r_iconst iX10_readTerm_58 ?_
    refine r_icmpne iX10_readTerm_59 (by omega) (by omega) (fun h59 => ?_) (fun h59 => ?_)
    · exfalso; omega
    · refine ld_i4 iX10_readTerm_62 ?_
      refine r_iconst iX10_readTerm_64 ?_
      refine r_icmpne iX10_readTerm_65 (by omega) (by omega) (fun h65 => ?_) (fun h65 => ?_)
      · obtain ⟨t, ht, hzt⟩ : ∃ t, tmc (tat T L (sk T L p)) A = some t ∧ z = cod t := by
          rcases hz with ⟨-, y⟩ | y
          · exact absurd y h65
          · exact y
        have hin := tat_in (tmc_ok ht).2.1
        refine ld_a0 iX10_readTerm_73 ?_
        refine r_dup rfl iX10_readTerm_74 ?_
        refine gf_X10_at kFX10_86 iX10_readTerm_75 ?_
        rw [e1.2.1]
        refine r_iconst iX10_readTerm_78 ?_
        refine r_iadd iX10_readTerm_79 ?_
        refine pf_X10_at kFX10_86 iX10_readTerm_80 ?_
        refine r_bipush (by decide) iX10_readTerm_83 ?_
        refine ld_i1 iX10_readTerm_85 ?_
        refine r_imul iX10_readTerm_86 ?_
        refine ld_a0 iX10_readTerm_87 ?_
        refine gf_X10_readTerms kFX10_13 iX10_readTerm_88 ?_
        refine ld_i1 iX10_readTerm_91 ?_
        refine al_42 rfl (by omega) iX10_readTerm_92 ?_
        rw [upN_k (by decide), hT1.1]
        refine r_iadd iX10_readTerm_93 ?_
        refine sv_i5 (by decide) rfl iX10_readTerm_94 ?_
        refine ld_a0 iX10_readTerm_96 ?_
        refine gf_X10_readSign kFX10_19 iX10_readTerm_97 ?_
        refine ld_i5 iX10_readTerm_100 ?_
        refine ld_i2 iX10_readTerm_102 ?_
        refine as_44 (n := (6 * a + n)) (by omega) (by omega) iX10_readTerm_103 ?_
        refine ld_a0 iX10_readTerm_104 ?_
        refine gf_X10_readWhat kFX10_25 iX10_readTerm_105 ?_
        refine ld_i5 iX10_readTerm_108 ?_
        refine ld_i4 iX10_readTerm_110 ?_
        refine as_46 (n := (6 * a + n)) (by omega) (by omega) iX10_readTerm_112 ?_
        refine ld_a0 iX10_readTerm_113 ?_
        refine gf_X10_readTerms kFX10_13 iX10_readTerm_114 ?_
        refine ld_i1 iX10_readTerm_117 ?_
        refine r_dup2 rfl rfl iX10_readTerm_118 ?_
        refine al_42 rfl (by omega) iX10_readTerm_119 ?_
        rw [upN_k (by decide), upN_k (by decide), upN_k (by decide), hT1.1]
        refine r_iconst iX10_readTerm_120 ?_
        refine r_iadd iX10_readTerm_121 ?_
        refine as_42 rfl (by omega) iX10_readTerm_122 ?_
        refine t_void rfl iX10_readTerm_123 ?_
        refine hq (sk T L p + 1) (-1) _ (fun k i j z1 z2 z3 => ?_) ((e1.go (q := sk T L p + 1) (z := ((sk T L p : Nat) : Int) + 1) (by omega) (by omega) rfl).of (fun j hj => by rw [upN_k (by decide), upN_k (by decide), upN_k (by decide)]) (fun j => by rw [upN_k (by decide), upN_k (by decide), upN_k (by decide)])) (Or.inr ⟨t, ht, rfl, rfl, upN_eq _ _ _ _ _, fun j hj => ?_⟩)
        · rw [show ∀ A v, upN A 42 0 a v k i j = A k i j from fun A v => if_neg (fun y => by omega), show ∀ A v, upN A 46 0 (6 * a + n) v k i j = A k i j from fun A v => if_neg (fun y => by omega), show ∀ A v, upN A 44 0 (6 * a + n) v k i j = A k i j from fun A v => if_neg (fun y => by omega), show ∀ A v, upN A 40 0 3 v k i j = A k i j from fun A v => if_neg (fun y => by omega)]
          exact f1 k i j z1
        · by_cases e : j = n
          · subst e; simp [upN, upf, hzt]
          · have h1 := hT1.2 j (by omega)
            have : ¬ 6 * a + j = 6 * a + n := by omega
            simp [upN, upf, e]; exact h1
      · have hno : tmc (tat T L (sk T L p)) A = none := by
          rcases hz with ⟨y, -⟩ | ⟨t, ht, y⟩
          · exact y
          · have := cod_r (tmc_ok ht).1 hA; omega
        refine ld_a0 iX10_readTerm_68 ?_
        refine xX10_bad kMX10_103 iX10_readTerm_69 (by decide) (Nat.le_of_ble_eq_true rfl) rfl rfl ?_
        refine c_mBad1 e1 (fun N2 f2 e2 => ?_)
        refine t_void rfl iX10_readTerm_72 ?_
        exact hq _ _ N2 ((f1.tr f2).t a) e2 (Or.inl ⟨hno, rfl, hT1.m f2⟩)
  refine ld_a0 iX10_readTerm_0 ?_
  refine xX10_ahead kMX10_100 iX10_readTerm_1 (by decide) (Nat.le_of_ble_eq_true rfl) rfl rfl ?_
  refine c_mAhead hR (fun N1 f1 e1 => ?_)
  refine sv_i3 (by decide) rfl iX10_readTerm_4 ?_
  refine ld_i3 iX10_readTerm_5 ?_
  refine r_bipush (by decide) iX10_readTerm_6 ?_
  refine r_icmpne iX10_readTerm_8 (by omega) (by omega) (fun h8 => ?_) (fun h8 => ?_)
  · refine ld_i3 iX10_readTerm_15 ?_
    refine r_bipush (by decide) iX10_readTerm_16 ?_
    refine r_icmpne iX10_readTerm_18 (by omega) (by omega) (fun h18 => ?_) (fun h18 => ?_)
    · refine ld_i3 iX10_readTerm_25 ?_
      refine r_bipush (by decide) iX10_readTerm_26 ?_
      refine r_icmplt iX10_readTerm_28 (by omega) (by omega) (fun h28 => ?_) (fun h28 => ?_)
      · refine r_iconst iX10_readTerm_51 ?_
        refine t52 _ N1 f1 e1 ?_
        first
          | exact Or.inr ⟨6, by unfold tmc; rw [if_pos (by omega)], rfl⟩
          | exact Or.inr ⟨7, by unfold tmc; rw [if_neg (by omega), if_pos (by omega)], rfl⟩
          | exact Or.inr ⟨(tat T L (sk T L p) - 97).toNat, by unfold tmc; rw [if_neg (by omega), if_neg (by omega), if_pos (by omega)], by have := cod_cs (tat T L (sk T L p) - 97).toNat; omega⟩
          | exact Or.inl ⟨by unfold tmc; rw [if_neg (by omega), if_neg (by omega), if_neg (by omega)], rfl⟩
      · refine ld_i3 iX10_readTerm_31 ?_
        refine r_bipush (by decide) iX10_readTerm_32 ?_
        refine ld_a0 iX10_readTerm_34 ?_
        refine gf_X10_readAccounts kFX10_110 iX10_readTerm_35 ?_
        rw [f1 40 0 17 (by omega), h17]
        refine r_iadd iX10_readTerm_38 ?_
        refine r_icmpge iX10_readTerm_39 (by omega) (by omega) (fun h39 => ?_) (fun h39 => ?_)
        · refine r_iconst iX10_readTerm_51 ?_
          refine t52 _ N1 f1 e1 ?_
          first
            | exact Or.inr ⟨6, by unfold tmc; rw [if_pos (by omega)], rfl⟩
            | exact Or.inr ⟨7, by unfold tmc; rw [if_neg (by omega), if_pos (by omega)], rfl⟩
            | exact Or.inr ⟨(tat T L (sk T L p) - 97).toNat, by unfold tmc; rw [if_neg (by omega), if_neg (by omega), if_pos (by omega)], by have := cod_cs (tat T L (sk T L p) - 97).toNat; omega⟩
            | exact Or.inl ⟨by unfold tmc; rw [if_neg (by omega), if_neg (by omega), if_neg (by omega)], rfl⟩
        · refine r_iconst iX10_readTerm_42 ?_
          refine ld_i3 iX10_readTerm_43 ?_
          refine r_iadd iX10_readTerm_44 ?_
          refine r_bipush (by decide) iX10_readTerm_45 ?_
          refine r_isub iX10_readTerm_47 ?_
          refine r_goto iX10_readTerm_48 ?_
          refine t52 _ N1 f1 e1 ?_
          first
            | exact Or.inr ⟨6, by unfold tmc; rw [if_pos (by omega)], rfl⟩
            | exact Or.inr ⟨7, by unfold tmc; rw [if_neg (by omega), if_pos (by omega)], rfl⟩
            | exact Or.inr ⟨(tat T L (sk T L p) - 97).toNat, by unfold tmc; rw [if_neg (by omega), if_neg (by omega), if_pos (by omega)], by have := cod_cs (tat T L (sk T L p) - 97).toNat; omega⟩
            | exact Or.inl ⟨by unfold tmc; rw [if_neg (by omega), if_neg (by omega), if_neg (by omega)], rfl⟩
    · refine r_iconst iX10_readTerm_21 ?_
      refine r_goto iX10_readTerm_22 ?_
      refine t52 _ N1 f1 e1 ?_
      first
        | exact Or.inr ⟨6, by unfold tmc; rw [if_pos (by omega)], rfl⟩
        | exact Or.inr ⟨7, by unfold tmc; rw [if_neg (by omega), if_pos (by omega)], rfl⟩
        | exact Or.inr ⟨(tat T L (sk T L p) - 97).toNat, by unfold tmc; rw [if_neg (by omega), if_neg (by omega), if_pos (by omega)], by have := cod_cs (tat T L (sk T L p) - 97).toNat; omega⟩
        | exact Or.inl ⟨by unfold tmc; rw [if_neg (by omega), if_neg (by omega), if_neg (by omega)], rfl⟩
  · refine r_iconst iX10_readTerm_11 ?_
    refine r_goto iX10_readTerm_12 ?_
    refine t52 _ N1 f1 e1 ?_
    first
      | exact Or.inr ⟨6, by unfold tmc; rw [if_pos (by omega)], rfl⟩
      | exact Or.inr ⟨7, by unfold tmc; rw [if_neg (by omega), if_pos (by omega)], rfl⟩
      | exact Or.inr ⟨(tat T L (sk T L p) - 97).toNat, by unfold tmc; rw [if_neg (by omega), if_neg (by omega), if_pos (by omega)], by have := cod_cs (tat T L (sk T L p) - 97).toNat; omega⟩
      | exact Or.inl ⟨by unfold tmc; rw [if_neg (by omega), if_neg (by omega), if_neg (by omega)], rfl⟩
end MRead8
