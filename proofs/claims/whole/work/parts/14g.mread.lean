/-! own text: the reference tells the fault of its tape, takes a desk from it -/
/-- nothing has changed but what a desk changes -/
def FrMK (N N' : Nm) : Prop := ∀ k i j, ¬ (k = 40 ∧ (j = 0 ∨ j = 2 ∨ j = 3 ∨ j = 4 ∨ (17 ≤ j ∧ j ≤ 22) ∨ j = 25)) → ¬ (42 ≤ k ∧ k ≤ 53) → N' k i j = N k i j
theorem MS.d {N N' : Nm} {d : Dk} (h : MS N d) (f : FrMD N N') : MS N' d := by
  obtain ⟨h1, h2, h3⟩ := h
  refine ⟨by rw [f 40 0 22 (by omega) (by omega)]; exact h1, by rw [f 40 0 27 (by omega) (by omega)]; exact h2, fun z => ?_⟩
  rw [f 40 0 22 (by omega) (by omega)] at z
  obtain ⟨a1, ⟨b1, b2, b3⟩, a3⟩ := h3 z
  refine ⟨a1, ⟨by rw [f 40 0 19 (by omega) (by omega)]; exact b1, fun a ha => ?_, fun a ha => ?_⟩, by rw [f 40 0 20 (by omega) (by omega)]; exact a3⟩
  · obtain ⟨e1, e2⟩ := b2 a ha
    exact ⟨by rw [f 43 _ _ (by omega) (by omega)]; exact e1, fun j hj => by rw [f 47 _ _ (by omega) (by omega), f 45 _ _ (by omega) (by omega)]; exact e2 j hj⟩
  · obtain ⟨e1, e2, e3⟩ := b3 a ha
    exact ⟨by rw [f 53 _ _ (by omega) (by omega)]; exact e1, by rw [f 49 _ _ (by omega) (by omega)]; exact e2, fun q hq => by rw [f 51 _ _ (by omega) (by omega), f 51 _ _ (by omega) (by omega), f 51 _ _ (by omega) (by omega)]; exact e3 q hq⟩
section MRead3
variable {K : Kx} {N : Nm} {g : Ge} {T : Nat → Int} {L : Nat} {d : Dk}
theorem m_fault {Pq : Int → Nm → Ge → Prop} (hT : Mp N T L) (hq : ∀ N', FrMD N N' → Pq (fltA (pDesk T L 8 0 dk0 false)) N' g) : Ck K YX10_fault hX10_fault [vr 40 0] N g (qI Pq) := by
  refine Ck.intro 0 (by decide) rfl ?_
  show AW _ _ _ _ _ [some (vr 40 0)] _ _ _
  refine ld_a0 iX10_fault_0 ?_
  refine r_iconst iX10_fault_1 ?_
  refine pf_X10_thrown kFX10_72 iX10_fault_2 ?_
  refine ld_a0 iX10_fault_5 ?_
  refine xX10_readDesk kMX10_152 iX10_fault_6 (by decide) (Nat.le_of_ble_eq_true rfl) rfl rfl ?_
  refine c_mReadDesk (hT.of (upN_j (by decide)) (fun j => upN_k (by decide))) (fun z N1 hz f1 e1 => ?_)
  refine t_int rfl iX10_fault_9 ?_
  rw [e1.flt]
  exact hq N1 (((FrMD.rf N).up (by omega)).tr f1)
theorem c_copies {k1 k2 n : Nat} {Pq : Nm → Ge → Prop} (hk1 : kd k1 = (1, 0)) (hk2 : kd k2 = (1, 0)) (hl1 : ln g k1 0 = n) (hl2 : ln g k2 0 = n) (hn : n ≤ 1000) (hne : k1 ≠ k2) (hq : ∀ N', (∀ k i j, k ≠ k2 → N' k i j = N k i j) → (∀ j, j < n → N' k2 0 j = N k1 0 j) → Pq N' g) : Ck K YX10_copies hX10_copies [vr k1 0, vr k2 0] N g (qV Pq) := by
  refine Ck.intro 1 (by decide) rfl ?_
  show AW _ _ _ _ _ [some (vr k1 0), some (vr k2 0), none] _ _ _
  have loop : ∀ (f p : Nat) (c : Int) (N' : Nm), n - p = f → p ≤ n → c = p → (∀ k i j, k ≠ k2 → N' k i j = N k i j) → (∀ j, j < p → N' k2 0 j = N k1 0 j) → AW K YX10_copies hX10_copies (qV Pq) 2 [some (vr k1 0), some (vr k2 0), some (vi c)] [] N' g := by
    intro f
    induction f using Nat.strongRecOn with
    | _ f ih =>
      intro p c N' e hp hc h1 h2
      subst hc
      refine ld_i2 iX10_copies_2 ?_
      refine ld_a1 iX10_copies_3 ?_
      refine r_alen (c := 0) (Or.inl hk2) (Or.inl rfl) iX10_copies_4 ?_
      rw [hl2]
      refine r_icmpge iX10_copies_5 (by omega) (by omega) (fun h5 => ?_) (fun h5 => ?_)
      · refine t_void rfl iX10_copies_20 ?_
        exact hq N' h1 (fun j hj => h2 j (by omega))
      · refine ld_a1 iX10_copies_8 ?_
        refine ld_i2 iX10_copies_9 ?_
        refine ld_a0 iX10_copies_10 ?_
        refine ld_i2 iX10_copies_11 ?_
        refine r_iald (n := p) rfl (by omega) (by omega) hk1 iX10_copies_12 ?_
        refine r_iast (n := p) rfl (by omega) (by omega) hk2 iX10_copies_13 ?_
        refine inc_2 (by decide) rfl iX10_copies_14 ?_
        refine r_goto iX10_copies_17 ?_
        refine ih (n - (p + 1)) (by omega) (p + 1) _ _ rfl (by omega) (by omega) (fun k i j q => ?_) (fun j hj => ?_)
        · rw [upN_k q]; exact h1 k i j q
        · by_cases e : j = p
          · rw [e, upN_eq]; exact h1 k1 0 p hne
          · rw [upN_j e]; exact h2 j (by omega)
  refine r_iconst iX10_copies_0 ?_
  refine sv_i2 (by decide) rfl iX10_copies_1 ?_
  exact loop n 0 _ N (by omega) (by omega) (by omega) (fun _ _ _ _ => rfl) (fun j hj => by omega)
theorem m_desk {Pq : Int → Nm → Ge → Prop} (hT : Mp N T L) (h27 : N 40 0 27 = -1) (hq0 : ∀ w, pDesk T L 8 0 dk0 false = .inl w → ∀ N', FrMD N N' → Pq (-1) N' g) (hq1 : ∀ d', pDesk T L 8 0 dk0 false = .inr d' → WD d' → ∀ N', MS N' d' → N' 40 0 22 = 1 → N' 40 0 2 = 0 → N' 40 0 25 = 0 → FrMK N N' → Pq (dA d') N' g) : Ck K YX10_desk hX10_desk [vr 40 0] N g (qI Pq) := by
  refine Ck.intro 0 (by decide) rfl ?_
  show AW _ _ _ _ _ [some (vr 40 0)] _ _ _
  refine ld_a0 iX10_desk_0 ?_
  refine r_iconst iX10_desk_1 ?_
  refine pf_X10_thrown kFX10_72 iX10_desk_2 ?_
  refine ld_a0 iX10_desk_5 ?_
  refine xX10_readDesk kMX10_152 iX10_desk_6 (by decide) (Nat.le_of_ble_eq_true rfl) rfl rfl ?_
  refine c_mReadDesk (hT.of (upN_j (by decide)) (fun j => upN_k (by decide))) (fun z N1 hz f1 e1 => ?_)
  have f01 := ((FrMD.rf N).up (i := 0) (j := 0) (v := 0) (by omega)).tr f1
  refine r_iconst iX10_desk_9 ?_
  refine r_icmpeq iX10_desk_10 (by omega) (by omega) (fun h10 => ?_) (fun h10 => ?_)
  · obtain ⟨d', hw, hR, hW⟩ : ∃ d', pDesk T L 8 0 dk0 false = .inr d' ∧ MoR N1 d' ∧ WD d' := by
      rcases e1 with ⟨w, hw, hz1⟩ | ⟨d', hw, hz1, hR, hW⟩
      · omega
      · exact ⟨d', hw, hR, hW⟩
    refine ld_a0 iX10_desk_15 ?_
    refine r_iconst iX10_desk_16 ?_
    refine pf_X10_taped kFX10_79 iX10_desk_17 ?_
    refine ld_a0 iX10_desk_20 ?_
    refine gf_X10_readTerms kFX10_13 iX10_desk_21 ?_
    refine ld_a0 iX10_desk_24 ?_
    refine gf_X10_terms kFX10_16 iX10_desk_25 ?_
    refine xX10_copies kMX10_155 iX10_desk_28 (by decide) (Nat.le_of_ble_eq_true rfl) rfl rfl ?_
    refine c_copies (k1 := 42) (k2 := 43) (n := 7) rfl rfl rfl rfl (by omega) (by decide) (fun N2 f2 e2 => ?_)
    refine ld_a0 iX10_desk_31 ?_
    refine gf_X10_readSign kFX10_19 iX10_desk_32 ?_
    refine ld_a0 iX10_desk_35 ?_
    refine gf_X10_sign kFX10_22 iX10_desk_36 ?_
    refine xX10_copies kMX10_155 iX10_desk_39 (by decide) (Nat.le_of_ble_eq_true rfl) rfl rfl ?_
    refine c_copies (k1 := 44) (k2 := 45) (n := 42) rfl rfl rfl rfl (by omega) (by decide) (fun N3 f3 e3 => ?_)
    refine ld_a0 iX10_desk_42 ?_
    refine gf_X10_readWhat kFX10_25 iX10_desk_43 ?_
    refine ld_a0 iX10_desk_46 ?_
    refine gf_X10_what kFX10_28 iX10_desk_47 ?_
    refine xX10_copies kMX10_155 iX10_desk_50 (by decide) (Nat.le_of_ble_eq_true rfl) rfl rfl ?_
    refine c_copies (k1 := 46) (k2 := 47) (n := 42) rfl rfl rfl rfl (by omega) (by decide) (fun N4 f4 e4 => ?_)
    refine ld_a0 iX10_desk_53 ?_
    refine gf_X10_readMany kFX10_31 iX10_desk_54 ?_
    refine ld_a0 iX10_desk_57 ?_
    refine gf_X10_many kFX10_34 iX10_desk_58 ?_
    refine xX10_copies kMX10_155 iX10_desk_61 (by decide) (Nat.le_of_ble_eq_true rfl) rfl rfl ?_
    refine c_copies (k1 := 48) (k2 := 49) (n := 6) rfl rfl rfl rfl (by omega) (by decide) (fun N5 f5 e5 => ?_)
    refine ld_a0 iX10_desk_64 ?_
    refine gf_X10_readSegment kFX10_37 iX10_desk_65 ?_
    refine ld_a0 iX10_desk_68 ?_
    refine gf_X10_segment kFX10_40 iX10_desk_69 ?_
    refine xX10_copies kMX10_155 iX10_desk_72 (by decide) (Nat.le_of_ble_eq_true rfl) rfl rfl ?_
    refine c_copies (k1 := 50) (k2 := 51) (n := 108) rfl rfl rfl rfl (by omega) (by decide) (fun N6 f6 e6 => ?_)
    refine ld_a0 iX10_desk_75 ?_
    refine gf_X10_readDeep kFX10_43 iX10_desk_76 ?_
    refine ld_a0 iX10_desk_79 ?_
    refine gf_X10_deep kFX10_46 iX10_desk_80 ?_
    refine xX10_copies kMX10_155 iX10_desk_83 (by decide) (Nat.le_of_ble_eq_true rfl) rfl rfl ?_
    refine c_copies (k1 := 52) (k2 := 53) (n := 6) rfl rfl rfl rfl (by omega) (by decide) (fun N7 f7 e7 => ?_)
    have f17 : ∀ k i j, ¬ (k = 40 ∧ j = 2) → ¬ (k = 43 ∨ k = 45 ∨ k = 47 ∨ k = 49 ∨ k = 51 ∨ k = 53) → N7 k i j = N1 k i j := fun k i j z1 z2 => by rw [f7 k i j (by omega), f6 k i j (by omega), f5 k i j (by omega), f4 k i j (by omega), f3 k i j (by omega), f2 k i j (by omega)]; exact if_neg (fun y => by omega)
    refine ld_a0 iX10_desk_86 ?_
    refine ld_a0 iX10_desk_87 ?_
    refine gf_X10_readAccounts kFX10_110 iX10_desk_88 ?_
    rw [f17 40 0 17 (by omega) (by omega), hR.1.1]
    refine pf_X10_accounts kFX10_159 iX10_desk_91 ?_
    refine ld_a0 iX10_desk_94 ?_
    refine ld_a0 iX10_desk_95 ?_
    refine gf_X10_readBenefit kFX10_142 iX10_desk_96 ?_
    rw [upN_j (by decide), f17 40 0 18 (by omega) (by omega), hR.1.2.1]
    refine pf_X10_benefit kFX10_162 iX10_desk_99 ?_
    refine ld_a0 iX10_desk_102 ?_
    refine r_iconst iX10_desk_103 ?_
    refine pf_X10_isDesk (by omega) kFX10_165 iX10_desk_104 ?_
    refine ld_a0 iX10_desk_107 ?_
    refine r_iconst iX10_desk_108 ?_
    refine pf_X10_months kFX10_168 iX10_desk_109 ?_
    refine ld_a0 iX10_desk_112 ?_
    refine gf_X10_accounts kFX10_159 iX10_desk_113 ?_
    rw [upN_j (by decide), upN_j (by decide), upN_j (by decide), upN_eq]
    refine t_int rfl iX10_desk_116 ?_
    have hup : ∀ k i j, 41 ≤ k → upN (upN (upN (upN N7 40 0 19 (dA d')) 40 0 20 (dB d')) 40 0 22 1) 40 0 25 0 k i j = N7 k i j := fun k i j z => by rw [upN_k (by omega), upN_k (by omega), upN_k (by omega), upN_k (by omega)]
    refine hq1 d' hw hW _ ⟨Or.inr ?_, ?_, fun _ => ⟨hW, ⟨?_, fun a ha => ?_, fun a ha => ?_⟩, ?_⟩⟩ ?_ ?_ (upN_eq _ _ _ _ _) (fun k i j z1 z2 => ?_)
    · rw [upN_j (by decide), upN_eq]
    · rw [upN_j (by decide), upN_j (by decide), upN_j (by decide), upN_j (by decide), f17 40 0 27 (by omega) (by omega), f01 40 0 27 (by omega) (by omega)]; exact h27
    · rw [upN_j (by decide), upN_j (by decide), upN_j (by decide), upN_eq]
    · have hr : RowMT N1 a (dT d' a) (dG d' a) (dM d' a) := by
        rcases ha with h | h
        · exact (hR.1.2.2 a h).1
        · subst h; exact hR.2
      have hA := hW.1
      have h6 : dT d' a ≤ 6 := by
        rcases ha with h | h
        · exact (hW.2.2.1 a h).2.1.2.1
        · subst h; exact hW.2.2.2.2.1
      refine ⟨?_, fun j hj => ⟨?_, ?_⟩⟩
      · rw [hup _ _ _ (by omega), f7 43 _ _ (by decide), f6 43 _ _ (by decide), f5 43 _ _ (by decide), f4 43 _ _ (by decide), f3 43 _ _ (by decide), e2 a (by omega), upN_k (by decide)]; exact hr.1
      · rw [hup _ _ _ (by omega), f7 47 _ _ (by decide), f6 47 _ _ (by decide), f5 47 _ _ (by decide), e4 _ (by omega), f3 46 _ _ (by decide), f2 46 _ _ (by decide), upN_k (by decide)]; exact (hr.2 j hj).1
      · rw [hup _ _ _ (by omega), f7 45 _ _ (by decide), f6 45 _ _ (by decide), f5 45 _ _ (by decide), f4 45 _ _ (by decide), e3 _ (by omega), f2 44 _ _ (by decide), upN_k (by decide)]; exact (hr.2 j hj).2
    · obtain ⟨-, hs, hd⟩ := hR.1.2.2 a ha
      have hA := hW.1
      have h6 := (hW.2.2.1 a ha).1.2.1
      have h50 : ∀ j, j < 108 → N7 51 0 j = N1 50 0 j := fun j hj => by rw [f7 51 _ _ (by decide), e6 j hj, f5 50 _ _ (by decide), f4 50 _ _ (by decide), f3 50 _ _ (by decide), f2 50 _ _ (by decide), upN_k (by decide)]
      refine ⟨?_, ?_, fun q hq => ?_⟩
      · rw [hup _ _ _ (by omega), e7 a (by omega), f6 52 _ _ (by decide), f5 52 _ _ (by decide), f4 52 _ _ (by decide), f3 52 _ _ (by decide), f2 52 _ _ (by decide), upN_k (by decide)]; exact hd
      · rw [hup _ _ _ (by omega), f7 49 _ _ (by decide), f6 49 _ _ (by decide), e5 a (by omega), f4 48 _ _ (by decide), f3 48 _ _ (by decide), f2 48 _ _ (by decide), upN_k (by decide)]; exact hs.1
      · rw [hup _ _ _ (by omega), hup _ _ _ (by omega), hup _ _ _ (by omega), h50 _ (by omega), h50 _ (by omega), h50 _ (by omega)]; exact hs.2 q hq
    · rw [upN_j (by decide), upN_j (by decide), upN_eq]
    · rw [upN_j (by decide), upN_eq]
    · rw [upN_j (by decide), upN_j (by decide), upN_j (by decide), upN_j (by decide), f7 40 _ _ (by decide), f6 40 _ _ (by decide), f5 40 _ _ (by decide), f4 40 _ _ (by decide), f3 40 _ _ (by decide), f2 40 _ _ (by decide), upN_eq]
    · rw [show ∀ A v, upN A 40 0 25 v k i j = A k i j from fun A v => if_neg (fun y => by omega), show ∀ A v, upN A 40 0 22 v k i j = A k i j from fun A v => if_neg (fun y => by omega), show ∀ A v, upN A 40 0 20 v k i j = A k i j from fun A v => if_neg (fun y => by omega), show ∀ A v, upN A 40 0 19 v k i j = A k i j from fun A v => if_neg (fun y => by omega), f17 k i j (by omega) (by omega)]
      exact f01 k i j (by omega) (by omega)
  · refine r_iconst iX10_desk_13 ?_
    refine t_int rfl iX10_desk_14 ?_
    rcases e1 with ⟨w, hw, hz1⟩ | ⟨d', hw, hz1, -⟩
    · exact hq0 w hw N1 f01
    · exact absurd hz1 h10
end MRead3
