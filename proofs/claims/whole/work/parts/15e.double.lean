/-! own text: the class finds the bits of doubles -/
theorem ord_r (o : Ordering) : -1 ≤ ordI o ∧ ordI o ≤ 1 := by cases o <;> decide
theorem cmp_or {c : Nat} {q e : Int} {x : UInt64} (h : Nrm c q) (hx : FP.Core.val64 x = .fin false (2 ^ 52) e) : ∃ o, FP.dcmp (dbl false c q) x = some o ∧ (ordI o < 0 ↔ q < e) := by
  obtain ⟨h1, h2⟩ := cmp_pw h hx
  by_cases c1 : q < e
  · exact ⟨.lt, h1 c1, fun _ => c1, fun _ => by decide⟩
  · obtain ⟨o, ho, h3⟩ := h2 (by omega)
    refine ⟨o, h3, fun z => ?_, fun z => absurd z c1⟩
    cases o
    · exact absurd rfl ho
    · exact absurd z (by decide)
    · exact absurd z (by decide)
theorem cmp_zp {c : Nat} {q : Int} (h : Nrm c q) : FP.dcmp (dbl false c q) FP.dconst0 = some .gt := cmp_z (s := false) h
theorem cmp_zn {c : Nat} {q : Int} (h : Nrm c q) : FP.dcmp (dbl true c q) FP.dconst0 = some .lt := cmp_z (s := true) h
theorem fcmp_zp {c : Nat} {q : Int} (h : Nrf c q) : FP.fcmp (flt false c q) FP.fconst0 = some .gt := fcmp_z (s := false) h
theorem fcmp_zn {c : Nat} {q : Int} (h : Nrf c q) : FP.fcmp (flt true c q) FP.fconst0 = some .lt := fcmp_z (s := true) h
theorem n64_int {i : Int} {x : UInt64} (h : FP.Core.DInt i x) : vf_n64 x := by
  refine n64_of (fun z => ?_)
  unfold FP.Core.DInt at h
  rw [z] at h
  exact h
section Dbl9
variable {K : Kx} {N : Nm} {g : Ge} {c : Nat} {q : Int}
theorem r_dcmpG {Y : Ys} {h : Nat} {Q : Qt} {pc pc' : Nat} {ls : List (Option AV)} {st : List AV} {x y : UInt64} {op : CmpOp} (ho : FP.dcmp x y = some .gt) (hat : At Y pc (.dcmp op) 1 pc') (kk : AW K Y h Q pc' ls (vi 1 :: st) N g) : AW K Y h Q pc ls (vd y :: vd x :: st) N g := r_dcmp ho hat kk
theorem r_dcmpL {Y : Ys} {h : Nat} {Q : Qt} {pc pc' : Nat} {ls : List (Option AV)} {st : List AV} {x y : UInt64} {op : CmpOp} (ho : FP.dcmp x y = some .lt) (hat : At Y pc (.dcmp op) 1 pc') (kk : AW K Y h Q pc' ls (vi (-1) :: st) N g) : AW K Y h Q pc ls (vd y :: vd x :: st) N g := r_dcmp ho hat kk
theorem r_dcmpE {Y : Ys} {h : Nat} {Q : Qt} {pc pc' : Nat} {ls : List (Option AV)} {st : List AV} {x y : UInt64} {op : CmpOp} (ho : FP.dcmp x y = some .eq) (hat : At Y pc (.dcmp op) 1 pc') (kk : AW K Y h Q pc' ls (vi 0 :: st) N g) : AW K Y h Q pc ls (vd y :: vd x :: st) N g := r_dcmp ho hat kk
theorem r_fcmpG {Y : Ys} {h : Nat} {Q : Qt} {pc pc' : Nat} {ls : List (Option AV)} {st : List AV} {x y : UInt32} {op : CmpOp} (ho : FP.fcmp x y = some .gt) (hat : At Y pc (.fcmp op) 1 pc') (kk : AW K Y h Q pc' ls (vi 1 :: st) N g) : AW K Y h Q pc ls (vf y :: vf x :: st) N g := r_fcmp ho hat kk
theorem r_fcmpL {Y : Ys} {h : Nat} {Q : Qt} {pc pc' : Nat} {ls : List (Option AV)} {st : List AV} {x y : UInt32} {op : CmpOp} (ho : FP.fcmp x y = some .lt) (hat : At Y pc (.fcmp op) 1 pc') (kk : AW K Y h Q pc' ls (vi (-1) :: st) N g) : AW K Y h Q pc ls (vf y :: vf x :: st) N g := r_fcmp ho hat kk
theorem r_fcmpE {Y : Ys} {h : Nat} {Q : Qt} {pc pc' : Nat} {ls : List (Option AV)} {st : List AV} {x y : UInt32} {op : CmpOp} (ho : FP.fcmp x y = some .eq) (hat : At Y pc (.fcmp op) 1 pc') (kk : AW K Y h Q pc' ls (vi 0 :: st) N g) : AW K Y h Q pc ls (vf y :: vf x :: st) N g := r_fcmp ho hat kk
theorem c_powerOf {Pq : Int → Nm → Ge → Prop} (h : Nrm c q) (hq : -151 ≤ q ∧ q ≤ 47) (hk : Pq (q + 52) N g) : Ck K YX0_powerOf hX0_powerOf [vd (dbl false c q)] N g (qI Pq) := by
  have hn : ∀ r : Int, -152 ≤ r → r ≤ 48 → Nrm c r := fun r r1 r2 => ⟨h.1, h.2.1, by omega, by omega⟩
  refine Ck.intro 3 (by decide) rfl ?_
  show AW _ _ _ _ _ [some (vd (dbl false c q)), none, none, none, none] _ _ _
  have loop2 : ∀ (n : Nat) (r pw : Int), (-52 - r).toNat = n → pw = q - r → r ≤ -52 → -152 ≤ r → AW K YX0_powerOf hX0_powerOf (qI Pq) 32 [some (vd (dbl false c q)), none, some (vd (dbl false c r)), none, some (vi pw)] [] N g := by
    intro n
    induction n using Nat.strongRecOn with
    | _ n ih =>
      intro r pw e hp hr1 hr2
      obtain ⟨o, ho, hlt⟩ := cmp_or (hn r hr2 (by omega)) val_1
      have hor := ord_r o
      refine ld_i4 iX0_powerOf_32 ?_
      refine r_bipush (by decide) iX0_powerOf_34 ?_
      refine r_icmple iX0_powerOf_36 (by omega) (by omega) (fun h36 => ?_) (fun h36 => ?_)
      · exfalso; omega
      · refine ld_d2 iX0_powerOf_39 ?_
        refine r_dconst1 iX0_powerOf_40 ?_
        refine r_dcmp ho iX0_powerOf_41 ?_
        refine r_ifge iX0_powerOf_42 (by omega) (fun h42 => ?_) (fun h42 => ?_)
        · have hnl : ¬ r < -52 := fun z => by have := hlt.mpr z; omega
          refine ld_i4 iX0_powerOf_57 ?_
          refine t_int rfl iX0_powerOf_59 ?_
          rw [show pw = q + 52 by omega]; exact hk
        · have hll := hlt.mp (by omega)
          refine ld_d2 iX0_powerOf_45 ?_
          refine r_ldc2d kKX0_34 iX0_powerOf_46 ?_
          refine r_dmul (twice (hn r hr2 (by omega)) (hn (r + 1) (by omega) (by omega))) (n64_dbl (hn (r + 1) (by omega) (by omega)) _) iX0_powerOf_49 ?_
          refine sv_d2 (by decide) rfl iX0_powerOf_50 ?_
          refine inc_4 (by decide) rfl iX0_powerOf_51 ?_
          refine r_goto iX0_powerOf_54 ?_
          exact ih (-52 - (r + 1)).toNat (by omega) (r + 1) _ rfl (by omega) (by omega) (by omega)
  have loop1 : ∀ (n : Nat) (r pw : Int), (r + 60).toNat = n → pw = q - r → r ≤ q → (-52 ≤ r ∨ r = q) → AW K YX0_powerOf hX0_powerOf (qI Pq) 5 [some (vd (dbl false c q)), none, some (vd (dbl false c r)), none, some (vi pw)] [] N g := by
    intro n
    induction n using Nat.strongRecOn with
    | _ n ih =>
      intro r pw e hp hr1 hr2
      obtain ⟨o, ho, hlt⟩ := cmp_or (hn r (by omega) (by omega)) val_2
      have hor := ord_r o
      refine ld_i4 iX0_powerOf_5 ?_
      refine r_bipush (by decide) iX0_powerOf_7 ?_
      refine r_icmpge iX0_powerOf_9 (by omega) (by omega) (fun h9 => ?_) (fun h9 => ?_)
      · first
          | (exfalso; omega)
          | exact loop2 _ r pw rfl hp (by omega) (by omega)
      · refine ld_d2 iX0_powerOf_12 ?_
        refine r_ldc2d kKX0_34 iX0_powerOf_13 ?_
        refine r_dcmp ho iX0_powerOf_16 ?_
        refine r_iflt iX0_powerOf_17 (by omega) (fun h17 => ?_) (fun h17 => ?_)
        · have hll := hlt.mp (by omega)
          first
            | (exfalso; omega)
            | exact loop2 _ r pw rfl hp (by omega) (by omega)
        · have hnl : ¬ r < -51 := fun z => by have := hlt.mpr z; omega
          refine ld_d2 iX0_powerOf_20 ?_
          refine r_ldc2d kKX0_34 iX0_powerOf_21 ?_
          refine r_ddiv (halve (hn r (by omega) (by omega)) (hn (r - 1) (by omega) (by omega))) (n64_dbl (hn (r - 1) (by omega) (by omega)) _) iX0_powerOf_24 ?_
          refine sv_d2 (by decide) rfl iX0_powerOf_25 ?_
          refine inc_4 (by decide) rfl iX0_powerOf_26 ?_
          refine r_goto iX0_powerOf_29 ?_
          exact ih (r - 1 + 60).toNat (by omega) (r - 1) _ rfl (by omega) (by omega) (by omega)
  refine ld_d0 iX0_powerOf_0 ?_
  refine sv_d2 (by decide) rfl iX0_powerOf_1 ?_
  refine r_iconst iX0_powerOf_2 ?_
  refine sv_i4 (by decide) rfl iX0_powerOf_3 ?_
  exact loop1 _ q _ rfl (by omega) (by omega) (Or.inr rfl)
theorem c_scaled {Pq : UInt64 → Nm → Ge → Prop} (h : Nrm c q) (hq : -151 ≤ q ∧ q ≤ 47) (hk : Pq (dbl false c (-52)) N g) : Ck K YX0_scaled hX0_scaled [vd (dbl false c q), vi (q + 52)] N g (qD Pq) := by
  have hn : ∀ r : Int, -152 ≤ r → r ≤ 48 → Nrm c r := fun r r1 r2 => ⟨h.1, h.2.1, by omega, by omega⟩
  refine Ck.intro 3 (by decide) rfl ?_
  show AW _ _ _ _ _ [some (vd (dbl false c q)), none, some (vi (q + 52)), none, none, none] _ _ _
  have loop2 : ∀ (n : Nat) (r i : Int), (-52 - r).toNat = n → r ≤ -52 → -152 ≤ r → ((0 ≤ q + 52 ∧ i = 0 ∧ r = -52) ∨ (q + 52 < 0 ∧ r = q - i)) → AW K YX0_scaled hX0_scaled (qD Pq) 26 [some (vd (dbl false c q)), none, some (vi (q + 52)), some (vd (dbl false c r)), none, some (vi i)] [] N g := by
    intro n
    induction n using Nat.strongRecOn with
    | _ n ih =>
      intro r i e hr1 hr2 hc
      refine ld_i5 iX0_scaled_26 ?_
      refine ld_i2 iX0_scaled_28 ?_
      refine r_icmple iX0_scaled_29 (by omega) (by omega) (fun h29 => ?_) (fun h29 => ?_)
      · refine ld_d3 iX0_scaled_44 ?_
        refine t_double rfl iX0_scaled_45 ?_
        rw [show r = -52 by omega]; exact hk
      · refine ld_d3 iX0_scaled_32 ?_
        refine r_ldc2d kKX0_34 iX0_scaled_33 ?_
        refine r_dmul (twice (hn r hr2 (by omega)) (hn (r + 1) (by omega) (by omega))) (n64_dbl (hn (r + 1) (by omega) (by omega)) _) iX0_scaled_36 ?_
        refine sv_d3 (by decide) rfl iX0_scaled_37 ?_
        refine inc_5 (by decide) rfl iX0_scaled_38 ?_
        refine r_goto iX0_scaled_41 ?_
        exact ih (-52 - (r + 1)).toNat (by omega) (r + 1) _ rfl (by omega) (by omega) (by omega)
  have loop1 : ∀ (n : Nat) (r i : Int), (r + 200).toNat = n → i = q - r → r ≤ q → (-52 ≤ r ∨ r = q) → AW K YX0_scaled hX0_scaled (qD Pq) 5 [some (vd (dbl false c q)), none, some (vi (q + 52)), some (vd (dbl false c r)), none, some (vi i)] [] N g := by
    intro n
    induction n using Nat.strongRecOn with
    | _ n ih =>
      intro r i e hi hr1 hr2
      refine ld_i5 iX0_scaled_5 ?_
      refine ld_i2 iX0_scaled_7 ?_
      refine r_icmpge iX0_scaled_8 (by omega) (by omega) (fun h8 => ?_) (fun h8 => ?_)
      · refine r_iconst iX0_scaled_23 ?_
        refine sv_i5 (by decide) rfl iX0_scaled_24 ?_
        exact loop2 _ r 0 rfl (by omega) (by omega) (by omega)
      · refine ld_d3 iX0_scaled_11 ?_
        refine r_ldc2d kKX0_34 iX0_scaled_12 ?_
        refine r_ddiv (halve (hn r (by omega) (by omega)) (hn (r - 1) (by omega) (by omega))) (n64_dbl (hn (r - 1) (by omega) (by omega)) _) iX0_scaled_15 ?_
        refine sv_d3 (by decide) rfl iX0_scaled_16 ?_
        refine inc_5 (by decide) rfl iX0_scaled_17 ?_
        refine r_goto iX0_scaled_20 ?_
        exact ih (r - 1 + 200).toNat (by omega) (r - 1) _ rfl (by omega) (by omega) (by omega)
  refine ld_d0 iX0_scaled_0 ?_
  refine sv_d3 (by decide) rfl iX0_scaled_1 ?_
  refine r_iconst iX0_scaled_2 ?_
  refine sv_i5 (by decide) rfl iX0_scaled_3 ?_
  exact loop1 _ q _ rfl (by omega) (by omega) (Or.inr rfl)
theorem c_ofDouble {x : UInt64} {Pq : Int → Nm → Ge → Prop} (hx : x = FP.dconst0 ∨ ∃ s c q, x = dbl s c q ∧ Nrm c q ∧ -140 ≤ q ∧ q ≤ 40) (hk : Pq x.toInt64.toInt N g) : Ck K YX0_ofDouble hX0_ofDouble [vd x] N g (qL Pq) := by
  refine Ck.intro 5 (by decide) rfl ?_
  show AW _ _ _ _ _ [some (vd x), none, none, none, none, none, none] _ _ _
  rcases hx with rfl | ⟨s, c, q, rfl, h, hq1, hq2⟩
  · have hz : FP.dconst0.toInt64.toInt = 0 := by decide
    rw [hz] at hk
    refine ld_d0 iX0_ofDouble_0 ?_
    refine r_dconst0 iX0_ofDouble_1 ?_
    refine r_dcmpE (by decide +kernel) iX0_ofDouble_2 ?_
    refine r_ifne iX0_ofDouble_3 (by omega) (fun h3 => ?_) (fun h3 => ?_)
    · exfalso; omega
    · refine r_lconst (v := 0) (by decide) iX0_ofDouble_6 ?_
      refine t_long rfl iX0_ofDouble_7 ?_
      exact hk
  · rw [dbl_int h] at hk
    have hc1 := h.1
    have hc2 := h.2.1
    have h52 : Nrm c (-52) := ⟨h.1, h.2.1, by omega, by omega⟩
    obtain ⟨f1, f2⟩ := fr_int (m := 52) (i := c - 4503599627370496) (x := 4841369599423283200) h52 (by omega) val_p52 (by omega)
    have hi : ((c - 4503599627370496 : Nat) : Int) = (c : Int) - 4503599627370496 := by omega
    have hd2 : FP.d2l (FP.dmul (FP.dsub (dbl false c (-52)) FP.dconst1) 4841369599423283200) = Int64.ofInt ((c : Int) - 4503599627370496) := by
      refine FP.Core.d2l_int ?_
      rw [toL ⟨by omega, by omega⟩, ← hi]
      exact f2
    have hsh : Int64.ofInt (q + 52 + 1023) <<< ((Int32.ofInt 52).toInt64 &&& 63) = Int64.ofInt ((q + 1075) * 4503599627370496) := by
      rw [show q + 52 + 1023 = (((q + 1075).toNat : Nat) : Int) by omega, shl64, show (((q + 1075).toNat : Nat) : Int) = q + 1075 by omega]
    have t20 : ∀ z, z = (q + 1075) * 4503599627370496 + ((c : Int) - 4503599627370496) → True := fun _ _ => trivial
    clear t20
    cases s with
    | false =>
      refine ld_d0 iX0_ofDouble_0 ?_
      refine r_dconst0 iX0_ofDouble_1 ?_
      refine r_dcmpG (cmp_zp h) iX0_ofDouble_2 ?_
      refine r_ifne iX0_ofDouble_3 (by omega) (fun h3 => ?_) (fun h3 => ?_)
      · refine ld_d0 iX0_ofDouble_8 ?_
        refine r_dconst0 iX0_ofDouble_9 ?_
        refine r_dcmpG (cmp_zp h) iX0_ofDouble_10 ?_
        refine r_ifge iX0_ofDouble_11 (by omega) (fun h11 => ?_) (fun h11 => ?_)
        · refine ld_d0 iX0_ofDouble_19 ?_
          refine sv_d2 (by decide) rfl iX0_ofDouble_20 ?_
          refine ld_d2 iX0_ofDouble_21 ?_
          refine xX0_powerOf kMX0_19 iX0_ofDouble_22 (by decide) (Nat.le_of_ble_eq_true rfl) rfl rfl ?_
          refine c_powerOf h (by omega) ?_
          refine sv_i4 (by decide) rfl iX0_ofDouble_25 ?_
          refine ld_i4 iX0_ofDouble_27 ?_
          refine r_sipush (by decide) iX0_ofDouble_29 ?_
          refine r_iadd iX0_ofDouble_32 ?_
          refine r_i2l (by omega) iX0_ofDouble_33 ?_
          refine r_bipush (by decide) iX0_ofDouble_34 ?_
          refine r_lshl hsh iX0_ofDouble_36 ?_
          refine ld_d2 iX0_ofDouble_37 ?_
          refine ld_i4 iX0_ofDouble_38 ?_
          refine xX0_scaled kMX0_23 iX0_ofDouble_40 (by decide) (Nat.le_of_ble_eq_true rfl) rfl rfl ?_
          refine c_scaled h (by omega) ?_
          refine r_dconst1 iX0_ofDouble_43 ?_
          refine r_dsub rfl f1 iX0_ofDouble_44 ?_
          refine r_ldc2d kKX0_27 iX0_ofDouble_45 ?_
          refine r_dmul rfl (n64_int f2) iX0_ofDouble_48 ?_
          refine r_d2l hd2 iX0_ofDouble_49 ?_
          refine r_ladd iX0_ofDouble_50 ?_
          refine sv_l5 (by decide) rfl iX0_ofDouble_51 ?_
          refine ld_d0 iX0_ofDouble_53 ?_
          refine r_dconst0 iX0_ofDouble_54 ?_
          refine r_dcmpG (cmp_zp h) iX0_ofDouble_55 ?_
          refine r_ifge iX0_ofDouble_56 (by omega) (fun h56 => ?_) (fun h56 => ?_)
          · refine ld_l5 iX0_ofDouble_68 ?_
            refine t_long rfl iX0_ofDouble_70 ?_
            simp at hk; exact hk
          · exfalso; omega
        · exfalso; omega
      · exfalso; omega
    | true =>
      have hor : Int64.ofInt ((q + 1075) * 4503599627370496 + ((c : Int) - 4503599627370496)) ||| Int64.ofInt (-9223372036854775808) = Int64.ofInt ((q + 1075) * 4503599627370496 + ((c : Int) - 4503599627370496) - 9223372036854775808) := by
        rw [show (q + 1075) * 4503599627370496 + ((c : Int) - 4503599627370496) = ((((q + 1075) * 4503599627370496 + ((c : Int) - 4503599627370496)).toNat : Nat) : Int) by omega]
        exact or64 (by omega)
      refine ld_d0 iX0_ofDouble_0 ?_
      refine r_dconst0 iX0_ofDouble_1 ?_
      refine r_dcmpL (cmp_zn h) iX0_ofDouble_2 ?_
      refine r_ifne iX0_ofDouble_3 (by omega) (fun h3 => ?_) (fun h3 => ?_)
      · refine ld_d0 iX0_ofDouble_8 ?_
        refine r_dconst0 iX0_ofDouble_9 ?_
        refine r_dcmpL (cmp_zn h) iX0_ofDouble_10 ?_
        refine r_ifge iX0_ofDouble_11 (by omega) (fun h11 => ?_) (fun h11 => ?_)
        · exfalso; omega
        · refine ld_d0 iX0_ofDouble_14 ?_
          refine r_dneg iX0_ofDouble_15 ?_
          rw [neg_dbl h]
          refine r_goto iX0_ofDouble_16 ?_
          refine sv_d2 (by decide) rfl iX0_ofDouble_20 ?_
          refine ld_d2 iX0_ofDouble_21 ?_
          refine xX0_powerOf kMX0_19 iX0_ofDouble_22 (by decide) (Nat.le_of_ble_eq_true rfl) rfl rfl ?_
          refine c_powerOf h (by omega) ?_
          refine sv_i4 (by decide) rfl iX0_ofDouble_25 ?_
          refine ld_i4 iX0_ofDouble_27 ?_
          refine r_sipush (by decide) iX0_ofDouble_29 ?_
          refine r_iadd iX0_ofDouble_32 ?_
          refine r_i2l (by omega) iX0_ofDouble_33 ?_
          refine r_bipush (by decide) iX0_ofDouble_34 ?_
          refine r_lshl hsh iX0_ofDouble_36 ?_
          refine ld_d2 iX0_ofDouble_37 ?_
          refine ld_i4 iX0_ofDouble_38 ?_
          refine xX0_scaled kMX0_23 iX0_ofDouble_40 (by decide) (Nat.le_of_ble_eq_true rfl) rfl rfl ?_
          refine c_scaled h (by omega) ?_
          refine r_dconst1 iX0_ofDouble_43 ?_
          refine r_dsub rfl f1 iX0_ofDouble_44 ?_
          refine r_ldc2d kKX0_27 iX0_ofDouble_45 ?_
          refine r_dmul rfl (n64_int f2) iX0_ofDouble_48 ?_
          refine r_d2l hd2 iX0_ofDouble_49 ?_
          refine r_ladd iX0_ofDouble_50 ?_
          refine sv_l5 (by decide) rfl iX0_ofDouble_51 ?_
          refine ld_d0 iX0_ofDouble_53 ?_
          refine r_dconst0 iX0_ofDouble_54 ?_
          refine r_dcmpL (cmp_zn h) iX0_ofDouble_55 ?_
          refine r_ifge iX0_ofDouble_56 (by omega) (fun h56 => ?_) (fun h56 => ?_)
          · exfalso; omega
          · refine ld_l5 iX0_ofDouble_59 ?_
            refine r_ldc2 (z := -9223372036854775808) kKX0_29 (by decide) iX0_ofDouble_61 ?_
            refine r_lor hor iX0_ofDouble_64 ?_
            refine r_goto iX0_ofDouble_65 ?_
            refine t_long rfl iX0_ofDouble_70 ?_
            simp at hk; exact hk
      · exfalso; omega
/-- the bits of a quotient -/
def avB (k v : Int) : Int := if v = 0 then (if k = 0 then 9221120237041090560 else if k < 0 then -4503599627370496 else 9218868437227405312) else (FP.ddiv (FP.l2d (Int64.ofInt k)) (FP.l2d (Int64.ofInt v))).toInt64.toInt
theorem quo_cs {k v : Int} (hk : rL k) (hv : 0 < v ∧ rL v) : FP.ddiv (FP.l2d (Int64.ofInt k)) (FP.l2d (Int64.ofInt v)) = FP.dconst0 ∨ ∃ s c q, FP.ddiv (FP.l2d (Int64.ofInt k)) (FP.l2d (Int64.ofInt v)) = dbl s c q ∧ Nrm c q ∧ -140 ≤ q ∧ q ≤ 40 := by
  by_cases z : k = 0
  · subst z
    exact Or.inl (quo_zero (by rw [toL hv.2]; exact hv.1))
  · exact Or.inr (quo_nrm (by rw [toL hk]; exact z) (by rw [toL hv.2]; omega))
theorem n64_cs {x : UInt64} (hx : x = FP.dconst0 ∨ ∃ s c q, x = dbl s c q ∧ Nrm c q ∧ -140 ≤ q ∧ q ≤ 40) : vf_n64 x := by
  rcases hx with rfl | ⟨s, c, q, rfl, h, -⟩
  · exact n64_fin val_0
  · exact n64_dbl h s
theorem c_ofQuotient {k v : Int} {Pq : Int → Nm → Ge → Prop} (rk : rL k) (hv : 0 ≤ v ∧ rL v) (hq : Pq (avB k v) N g) : Ck K YX0_ofQuotient hX0_ofQuotient [vl k, vl v] N g (qL Pq) := by
  refine Ck.intro 0 (by decide) rfl ?_
  show AW _ _ _ _ _ [some (vl k), none, some (vl v), none] _ _ _
  unfold avB at hq
  refine ld_l2 iX0_ofQuotient_0 ?_
  refine r_lconst (v := 0) (by decide) iX0_ofQuotient_1 ?_
  refine r_lceq iX0_ofQuotient_2 iX0_ofQuotient_3 (by omega) (by omega) (fun h2 => ?_) (fun h2 => ?_)
  · rw [if_pos h2] at hq
    refine ld_l0 iX0_ofQuotient_15 ?_
    refine r_lconst (v := 0) (by decide) iX0_ofQuotient_16 ?_
    refine r_lcne iX0_ofQuotient_17 iX0_ofQuotient_18 (by omega) (by omega) (fun h17 => ?_) (fun h17 => ?_)
    · refine ld_l0 iX0_ofQuotient_25 ?_
      refine r_lconst (v := 0) (by decide) iX0_ofQuotient_26 ?_
      refine r_lcge iX0_ofQuotient_27 iX0_ofQuotient_28 (by omega) (by omega) (fun h27 => ?_) (fun h27 => ?_)
      · refine r_ldc2 (z := 9218868437227405312) kKX0_17 (by decide) iX0_ofQuotient_37 ?_
        refine t_long rfl iX0_ofQuotient_40 ?_
        first
          | (rw [if_neg (by omega), if_pos (by omega)] at hq; exact hq)
          | (rw [if_neg (by omega), if_neg (by omega)] at hq; exact hq)
      · refine r_ldc2 (z := -4503599627370496) kKX0_15 (by decide) iX0_ofQuotient_31 ?_
        refine r_goto iX0_ofQuotient_34 ?_
        refine t_long rfl iX0_ofQuotient_40 ?_
        first
          | (rw [if_neg (by omega), if_pos (by omega)] at hq; exact hq)
          | (rw [if_neg (by omega), if_neg (by omega)] at hq; exact hq)
    · refine r_ldc2 (z := 9221120237041090560) kKX0_13 (by decide) iX0_ofQuotient_21 ?_
      refine t_long rfl iX0_ofQuotient_24 ?_
      rw [if_pos (by omega)] at hq; exact hq
  · rw [if_neg h2] at hq
    have hcs := quo_cs rk ⟨show 0 < v by omega, hv.2⟩
    refine ld_l0 iX0_ofQuotient_6 ?_
    refine r_l2d iX0_ofQuotient_7 ?_
    refine ld_l2 iX0_ofQuotient_8 ?_
    refine r_l2d iX0_ofQuotient_9 ?_
    refine r_ddiv rfl (n64_cs hcs) iX0_ofQuotient_10 ?_
    refine xX0_ofDouble kMX0_7 iX0_ofQuotient_11 (by decide) (Nat.le_of_ble_eq_true rfl) rfl rfl ?_
    refine c_ofDouble hcs ?_
    refine t_long rfl iX0_ofQuotient_14 ?_
    exact hq
end Dbl9
