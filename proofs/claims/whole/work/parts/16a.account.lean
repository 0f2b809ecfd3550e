/-! own text: account, of the class: an answer, or the exception; the law's catching call -/
abbrev hL_account : Nat := 8
/-- what account can be asked -/
abbrev acG (N : Nm) (d : Dk) (a w : Int) : Prop := N 0 0 9 = 1 ∧ (0 ≤ a ∧ a < dA d) ∧ (0 ≤ w ∧ w ≤ 3)
theorem kKX9_115 : Cond.classLink RX9 115 xN ∈ TW := tw_t 960 (by decide +kernel) (by decide +kernel)
theorem kKL_13 : Cond.classLink RL 13 xN ∈ TW := tw_t 955 (by decide +kernel) (by decide +kernel)
theorem kNx : Cond.initialized xN ∈ TW := tw_t 16 (by decide +kernel) (by decide +kernel)
theorem kWL_account : Cond.codeWith yL_account cL_account 5 (some .int) tbA ∈ TW := tw_t 954 (by decide +kernel) (by decide +kernel)
section Acc
variable {K : Kx} {N : Nm} {g : Ge} {d : Dk}
theorem x_account {a w : Int} {Pq : Int → Nm → Ge → Prop} (hX : XS N g d) (ra : rI a) (rw' : rI w) (hg : acG N d a w) (hq : ∀ r N' g', acA d a w r → rI r → XT N g d N' g' → Pq r N' g') : Ck K YX9_account hX9_account [vr 0 0, vi a, vi w] N g (qI Pq) := by
  obtain ⟨hW, hR, -⟩ := hX.2.2 hg.1
  have hA := hW.1
  obtain ⟨A, hA1⟩ : ∃ A : Nat, a = A := ⟨a.toNat, by omega⟩
  subst hA1
  have rr := hR.2.2.2.1 A (by omega)
  have rt := hR.2.2.1 A (Or.inl (by omega))
  obtain ⟨w1, w2, w3⟩ := hW.2.2.1 A (by omega)
  have w1' := w1.2.1
  have w2' := w2.2.1
  refine Ck.intro 0 (by decide) rfl ?_
  show AW _ _ _ _ _ [some (vr 0 0), some (vi (A : Int)), some (vi w)] _ _ _
  refine ld_a0 iX9_account_0 ?_
  refine ld_i1 iX9_account_1 ?_
  refine xX9_isAccount kMX9_111 iX9_account_2 (by decide) (Nat.le_of_ble_eq_true rfl) rfl rfl ?_
  refine c_xisAccount hX ra ?_
  refine r_ifeq iX9_account_5 (by exact tf_r _) (fun h5 => ?_) (fun h5 => ?_)
  · have h5 := tf_n h5
    exfalso
    omega
  · have h5 := tf_y h5
    refine ld_i2 iX9_account_8 ?_
    refine r_iflt iX9_account_9 (by omega) (fun h9 => ?_) (fun h9 => ?_)
    · exfalso
      omega
    · refine ld_i2 iX9_account_12 ?_
      refine r_iconst iX9_account_13 ?_
      refine r_icmple iX9_account_14 (by omega) (by omega) (fun h14 => ?_) (fun h14 => ?_)
      · refine ld_i2 iX9_account_27 ?_
        refine r_tsw3 (tg0 := 56) (tg1 := 66) (tg2 := 76) (tgd := 86) iX9_account_28 (by omega) rfl rfl rfl rfl (fun h28 => ?_) (fun h28 => ?_) (fun h28 => ?_) (fun h28 => ?_)
        · refine ld_a0 iX9_account_56 ?_
          refine gf_X9_rules kFX9_58 iX9_account_57 ?_
          refine gf_X5_segmentCounts kFX9_122 iX9_account_60 ?_
          refine ld_i1 iX9_account_63 ?_
          refine al_27 rfl (by omega) iX9_account_64 ?_
          rw [rr.2.1]
          refine t_int rfl iX9_account_65 ?_
          exact hq _ _ _ ⟨fun _ => rfl, fun q => by omega, fun q => by omega, fun q => by omega⟩ (by omega) (XT.rf hX)
        · refine ld_a0 iX9_account_66 ?_
          refine gf_X9_rules kFX9_58 iX9_account_67 ?_
          refine gf_X5_termCounts kFX9_97 iX9_account_70 ?_
          refine ld_i1 iX9_account_73 ?_
          refine al_21 rfl (by omega) iX9_account_74 ?_
          rw [rt.1]
          refine t_int rfl iX9_account_75 ?_
          exact hq _ _ _ ⟨fun q => by omega, fun _ => rfl, fun q => by omega, fun q => by omega⟩ (by omega) (XT.rf hX)
        · refine ld_a0 iX9_account_76 ?_
          refine gf_X9_rules kFX9_58 iX9_account_77 ?_
          refine gf_X5_depths kFX9_125 iX9_account_80 ?_
          refine ld_i1 iX9_account_83 ?_
          refine al_26 rfl (by omega) iX9_account_84 ?_
          rw [rr.1]
          refine t_int rfl iX9_account_85 ?_
          exact hq _ _ _ ⟨fun q => by omega, fun q => by omega, fun _ => rfl, fun q => by omega⟩ (by omega) (XT.rf hX)
        · refine ld_a0 iX9_account_86 ?_
          refine ld_i1 iX9_account_87 ?_
          refine xX9_line kMX9_100 iX9_account_88 (by decide) (Nat.le_of_ble_eq_true rfl) rfl rfl ?_
          refine c_xline hX hg.1 (by omega) (fun N1 g1 P s G f1 f2 f3 f4 => ?_)
          obtain ⟨hps, hgp⟩ := f3.2.2.2.2.2.st f4
          have hPl := hps.P_le
          refine gf_X1_pieces kFX9_104 iX9_account_91 ?_
          rw [f3.1]
          refine t_int rfl iX9_account_94 ?_
          exact hq _ _ _ ⟨fun q => by omega, fun q => by omega, fun q => by omega, fun _ => ⟨P, s, hps, rfl⟩⟩ (by omega) f1
      · exfalso
        omega
theorem x_accountT {a w : Int} {QT : Nm → Ge → Prop} (hX : XS N g d) (ra : rI a) (rw' : rI w) (hn : ¬ acG N d a w) (hN : 1 ≤ N 99 0 0) (hq : QT (gh N) g) : CkT K YX9_account hX9_account [vr 0 0, vi a, vi w] N g QT := by
  refine CkT.intro 0 (by decide) rfl ?_
  show AWG _ _ _ _ _ _ [some (vr 0 0), some (vi a), some (vi w)] _ _ _
  have t17 : AWG K YX9_account hX9_account (RT K QT) (fun c => c.exceptionTable.toList = []) 17 [some (vr 0 0), some (vi a), some (vi w)] [] N g := by
    intro p e R s m args below meth c ad0 g0 C hE H locs cells slots ad L hP hL hl hs
    exact nx_throw C rfl (by decide) hP (hL.1.trans C.2.2.1.symm) hN hq kKX9_115 kNx iX9_account_17.1 iX9_account_20.1 iX9_account_21.1 iX9_account_23.1 iX9_account_26.1 (fun x hx => by rw [hE] at hx; cases hx)
  refine G_ald (i := 0) (k := 0) rfl iX9_account_0 rfl ?_
  refine G_ild (i := 1) (k := 1) rfl iX9_account_1 rfl ?_
  refine G_callV (drZ_RT K QT) (Y' := YX9_isAccount) (as := [vi a]) (st := []) iX9_account_2 kMX9_111 kIX9_isAccount kLX9_isAccount kCX9_isAccount kNX9 (n := 1) (by decide +kernel) rfl (k := 0) (c := 7) rfl rfl rfl (by decide) (h' := hX9_isAccount) (by decide) (by decide) rfl rfl ?_
  refine Ck.post (Q := qI (fun z N' g' => AWG K YX9_account hX9_account (RT K QT) (fun c => c.exceptionTable.toList = []) 5 [some (vr 0 0), some (vi a), some (vi w)] [vi z] N' g')) (fun r N' g' ⟨z, e, q⟩ => by subst e; exact q) (c_xisAccount hX ra ?_)
  refine G_ifeq iX9_account_5 (tf_r _) (fun _ => t17) (fun h5 => ?_)
  have h5 := tf_y h5
  refine G_ild (i := 2) (k := 2) rfl iX9_account_8 rfl ?_
  refine G_iflt iX9_account_9 rw' (fun _ => t17) (fun h9 => ?_)
  refine G_ild (i := 2) (k := 2) rfl iX9_account_12 rfl ?_
  refine G_iconst iX9_account_13 ?_
  exact G_icmple iX9_account_14 rw' (by omega) (fun h14 => absurd ⟨h5.1, h5.2, h9, h14⟩ hn) (fun _ => t17)
/-- the law's call of account -/
theorem l_account {a w : Int} {Pq : Int → Nm → Ge → Prop} (hX : XS N g d) (ra : rI a) (rw' : rI w) (hq1 : acG N d a w → ∀ r N' g', acA d a w r → rI r → XT N g d N' g' → Pq 0 (upN N' 60 0 0 r) g') (hN : ¬ acG N d a w → 1 ≤ N 99 0 0) (hq0 : ¬ acG N d a w → Pq 1 (gh N) g) : CkW K YL_account hL_account tbA [vr 0 0, vi a, vi w, vr 60 0] N g (qI Pq) := by
  refine CkW.intro 1 (by decide) rfl ?_
  show AWG _ _ _ _ _ _ [some (vr 0 0), some (vi a), some (vi w), some (vr 60 0), none] _ _ _
  by_cases hg : acG N d a w
  · refine AWG.of ?_
    refine ld_a3 iL_account_0 ?_
    refine r_iconst iL_account_1 ?_
    refine ld_a0 iL_account_2 ?_
    refine ld_i1 iL_account_3 ?_
    refine ld_i2 iL_account_4 ?_
    refine xX9_account kML_7 iL_account_5 (by decide) (Nat.le_of_ble_eq_true rfl) rfl rfl ?_
    refine x_account hX ra rw' hg (fun r N1 g1 e1 er e2 => ?_)
    refine r_i2l (by omega) iL_account_8 ?_
    refine as_60 (n := 0) (by omega) (by omega) iL_account_9 ?_
    refine r_goto iL_account_10 ?_
    refine r_iconst iL_account_17 ?_
    refine t_int rfl iL_account_18 ?_
    exact hq1 hg _ _ _ e1 er e2
  · refine G_ald (i := 3) (k := 3) rfl iL_account_0 rfl ?_
    refine G_iconst iL_account_1 ?_
    refine G_ald (i := 0) (k := 0) rfl iL_account_2 rfl ?_
    refine G_ild (i := 1) (k := 1) rfl iL_account_3 rfl ?_
    refine G_ild (i := 2) (k := 2) rfl iL_account_4 rfl ?_
    refine G_catch (Y' := YX9_account) (as := [vi a, vi w]) (st := [vi 0, vr 60 0]) iL_account_5 kML_7 kIX9_account kLX9_account kCX9_account kNX9 (n := 2) (by decide +kernel) rfl (k := 0) (c := 7) rfl rfl rfl (by decide) (h' := hX9_account) (by decide) (by decide) rfl rfl (by decide) kKL_13 (x_accountT hX ra rw' hg (hN hg) ?_)
    refine r_iconst iL_account_15 ?_
    exact t_int rfl iL_account_16 (hq0 hg)
end Acc
