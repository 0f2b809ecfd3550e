/-! own text: what the class answers -/
abbrev PD (d : Dk) : Nat → Int := LF d (dB d) 6
theorem PD_eq (d : Dk) (w : Nat) : PD d w = paid d (dB d) (-1) 0 w := if_pos rfl
def prA (F : Nat → Int) (v what r : Int) : Prop := (what = 0 → r = ct (fun w => decide (F w = v)) 10000) ∧ (what = 1 → Fst (fun w => v ≤ F w) 0 10000 r) ∧ (what = 2 → Lst (fun w => F w ≤ v) 10000 r) ∧ (what = 3 → Amx F (fun w => F w ≤ v) 10000 r)
def clA (F : Nat → Int) (i what r : Int) : Prop := (r = HID ∧ ¬ i < ct (clB F) 10000) ∨ ∃ c : Nat, (0 < c ∧ c < 10000) ∧ clB F c = true ∧ (ct (clB F) c : Int) = i ∧ (what = 0 → r = c) ∧ (what = 1 → r = F (c - 1) - F c) ∧ (what = 2 → Fst (fun w => F (c - 1) ≤ F w) c 10000 r) ∧ (what = 3 → ∃ b, Fst (fun w => F (c - 1) ≤ F w) c 10000 b ∧ r = (if b = -1 then 10000 else b) - c)
def crA (D : Nat → Int) (what r : Int) : Prop := (what = 0 → r = ct (sgB D) 10000) ∧ (what = 1 → ∃ b : Nat, Amx (fun w => ((D w).natAbs : Int)) (fun _ => True) 10000 b ∧ r = ((D b).natAbs : Int)) ∧ (what = 2 → Amx (fun w => ((D w).natAbs : Int)) (fun _ => True) 10000 r)
section Ask9
variable {K : Kx} {N : Nm} {g : Ge} {d : Dk}
theorem x_at {a w : Int} {Pq : Int → Nm → Ge → Prop} (hX : XS N g d) (ra : rI a) (rw' : rI w) (hq1 : N 0 0 9 = 1 ∧ (-1 ≤ a ∧ a < dA d) ∧ (0 ≤ w ∧ w ≤ 9999) → ∀ N' g', XT N g d N' g' → Pq (LF d (dB d) (rwo a) w.toNat) N' g') (hq0 : ¬ (N 0 0 9 = 1 ∧ (-1 ≤ a ∧ a < dA d) ∧ (0 ≤ w ∧ w ≤ 9999)) → Pq HID N g) : Ck K YX9_at hX9_at [vr 0 0, vi a, vi w] N g (qL Pq) := by
  refine Ck.intro 0 (by decide) rfl ?_
  show AW _ _ _ _ _ [some (vr 0 0), some (vi a), some (vi w)] _ _ _
  refine ld_a0 iX9_at_0 ?_
  refine ld_i1 iX9_at_1 ?_
  refine xX9_isLine kMX9_149 iX9_at_2 (by decide) (Nat.le_of_ble_eq_true rfl) rfl rfl ?_
  refine c_xisLine hX ra ?_
  refine r_ifeq iX9_at_5 (by exact tf_r _) (fun h5 => ?_) (fun h5 => ?_)
  · have h5 := tf_n h5
    refine r_ldc2 (z := -9000000000000000000) kKX9_155 (by decide) iX9_at_15 ?_
    refine t_long rfl iX9_at_18 ?_
    exact hq0 (by omega)
  · have h5 := tf_y h5
    refine ld_i2 iX9_at_8 ?_
    refine xX9_isWage kMX9_152 iX9_at_9 (by decide) (Nat.le_of_ble_eq_true rfl) rfl rfl ?_
    refine c_xisWage rw' ?_
    refine r_ifne iX9_at_12 (by exact tf_r _) (fun h12 => ?_) (fun h12 => ?_)
    · have h12 := tf_y h12
      obtain ⟨hW, hR, -⟩ := hX.2.2 h5.1
      have hA := hW.1
      have hro := rwo_ok (d := d) h5.2
      refine ld_a0 iX9_at_19 ?_
      refine gf_X9_point kFX9_19 iX9_at_20 ?_
      refine ld_a0 iX9_at_23 ?_
      refine gf_X9_rules kFX9_58 iX9_at_24 ?_
      refine ld_i2 iX9_at_27 ?_
      refine xX3_reckon kMX9_157 iX9_at_28 (by decide) (Nat.le_of_ble_eq_true rfl) rfl rfl ?_
      refine c_reckon hR hW h12 (fun N' f1 f2 f3 => ?_)
      refine r_pop2l rfl iX9_at_31 ?_
      refine ld_a0 iX9_at_32 ?_
      refine gf_X9_point kFX9_19 iX9_at_33 ?_
      refine gf_X3_values kFX9_161 iX9_at_36 ?_
      refine ld_i1 iX9_at_39 ?_
      refine xX9_rowOf kMX9_165 iX9_at_40 (by decide) (Nat.le_of_ble_eq_true rfl) rfl rfl ?_
      refine c_rowOf ra (by omega) ?_
      refine al_5 rfl (by omega) iX9_at_43 ?_
      refine t_long rfl iX9_at_44 ?_
      have y := hq1 ⟨h5.1, h5.2, h12⟩ N' g (XT.frp hX f1)
      unfold LF at y
      rw [show ((w.toNat : Nat) : Int) = w by omega] at y
      rcases hro with q | q
      · rw [if_neg (by omega)] at y
        rw [(f2 _ q).1]; exact y
      · rw [if_pos q] at y
        rw [q, f3]; exact y
    · have h12 := tf_n h12
      refine r_ldc2 (z := -9000000000000000000) kKX9_155 (by decide) iX9_at_15 ?_
      refine t_long rfl iX9_at_18 ?_
      exact hq0 (by omega)
theorem x_sum {a w : Int} {Pq : Int → Nm → Ge → Prop} (hX : XS N g d) (ra : rI a) (rw' : rI w) (hq1 : N 0 0 9 = 1 ∧ (0 ≤ a ∧ a < dA d) ∧ (0 ≤ w ∧ w ≤ 9999) → ∀ N' g', XT N g d N' g' → Pq (sumV d (dB d) w (VA d (dB d) (-1) 0 w) a.toNat) N' g') (hq0 : ¬ (N 0 0 9 = 1 ∧ (0 ≤ a ∧ a < dA d) ∧ (0 ≤ w ∧ w ≤ 9999)) → Pq HID N g) : Ck K YX9_sum hX9_sum [vr 0 0, vi a, vi w] N g (qL Pq) := by
  refine Ck.intro 0 (by decide) rfl ?_
  show AW _ _ _ _ _ [some (vr 0 0), some (vi a), some (vi w)] _ _ _
  refine ld_a0 iX9_sum_0 ?_
  refine ld_i1 iX9_sum_1 ?_
  refine xX9_isAccount kMX9_111 iX9_sum_2 (by decide) (Nat.le_of_ble_eq_true rfl) rfl rfl ?_
  refine c_xisAccount hX ra ?_
  refine r_ifeq iX9_sum_5 (by exact tf_r _) (fun h5 => ?_) (fun h5 => ?_)
  · have h5 := tf_n h5
    refine r_ldc2 (z := -9000000000000000000) kKX9_155 (by decide) iX9_sum_15 ?_
    refine t_long rfl iX9_sum_18 ?_
    exact hq0 (by omega)
  · have h5 := tf_y h5
    refine ld_i2 iX9_sum_8 ?_
    refine xX9_isWage kMX9_152 iX9_sum_9 (by decide) (Nat.le_of_ble_eq_true rfl) rfl rfl ?_
    refine c_xisWage rw' ?_
    refine r_ifne iX9_sum_12 (by exact tf_r _) (fun h12 => ?_) (fun h12 => ?_)
    · have h12 := tf_y h12
      obtain ⟨hW, hR, -⟩ := hX.2.2 h5.1
      have hA := hW.1
      refine ld_a0 iX9_sum_19 ?_
      refine gf_X9_point kFX9_19 iX9_sum_20 ?_
      refine ld_a0 iX9_sum_23 ?_
      refine gf_X9_rules kFX9_58 iX9_sum_24 ?_
      refine ld_i2 iX9_sum_27 ?_
      refine xX3_reckon kMX9_157 iX9_sum_28 (by decide) (Nat.le_of_ble_eq_true rfl) rfl rfl ?_
      refine c_reckon hR hW h12 (fun N' f1 f2 f3 => ?_)
      refine r_pop2l rfl iX9_sum_31 ?_
      refine ld_a0 iX9_sum_32 ?_
      refine gf_X9_point kFX9_19 iX9_sum_33 ?_
      refine gf_X3_sums kFX9_168 iX9_sum_36 ?_
      refine ld_i1 iX9_sum_39 ?_
      refine al_4 (n := (a.toNat)) (by omega) (by omega) iX9_sum_40 ?_
      refine t_long rfl iX9_sum_41 ?_
      have y := hq1 ⟨h5.1, h5.2, h12⟩ N' g (XT.frp hX f1)
      rw [(f2 a.toNat (by omega)).2.1]; exact y
    · have h12 := tf_n h12
      refine r_ldc2 (z := -9000000000000000000) kKX9_155 (by decide) iX9_sum_15 ?_
      refine t_long rfl iX9_sum_18 ?_
      exact hq0 (by omega)
theorem x_which {a w : Int} {Pq : Int → Nm → Ge → Prop} (hX : XS N g d) (ra : rI a) (rw' : rI w) (hq1 : N 0 0 9 = 1 ∧ (0 ≤ a ∧ a < dA d) ∧ (0 ≤ w ∧ w ≤ 9999) → ∀ N' g', XT N g d N' g' → Pq (segV d a.toNat (sumV d (dB d) w (VA d (dB d) (-1) 0 w) a.toNat)) N' g') (hq0 : ¬ (N 0 0 9 = 1 ∧ (0 ≤ a ∧ a < dA d) ∧ (0 ≤ w ∧ w ≤ 9999)) → Pq (-1) N g) : Ck K YX9_which hX9_which [vr 0 0, vi a, vi w] N g (qI Pq) := by
  refine Ck.intro 0 (by decide) rfl ?_
  show AW _ _ _ _ _ [some (vr 0 0), some (vi a), some (vi w)] _ _ _
  refine ld_a0 iX9_which_0 ?_
  refine ld_i1 iX9_which_1 ?_
  refine xX9_isAccount kMX9_111 iX9_which_2 (by decide) (Nat.le_of_ble_eq_true rfl) rfl rfl ?_
  refine c_xisAccount hX ra ?_
  refine r_ifeq iX9_which_5 (by exact tf_r _) (fun h5 => ?_) (fun h5 => ?_)
  · have h5 := tf_n h5
    refine r_iconst iX9_which_15 ?_
    refine t_int rfl iX9_which_16 ?_
    exact hq0 (by omega)
  · have h5 := tf_y h5
    refine ld_i2 iX9_which_8 ?_
    refine xX9_isWage kMX9_152 iX9_which_9 (by decide) (Nat.le_of_ble_eq_true rfl) rfl rfl ?_
    refine c_xisWage rw' ?_
    refine r_ifne iX9_which_12 (by exact tf_r _) (fun h12 => ?_) (fun h12 => ?_)
    · have h12 := tf_y h12
      obtain ⟨hW, hR, -⟩ := hX.2.2 h5.1
      have hA := hW.1
      refine ld_a0 iX9_which_17 ?_
      refine gf_X9_point kFX9_19 iX9_which_18 ?_
      refine ld_a0 iX9_which_21 ?_
      refine gf_X9_rules kFX9_58 iX9_which_22 ?_
      refine ld_i2 iX9_which_25 ?_
      refine xX3_reckon kMX9_157 iX9_which_26 (by decide) (Nat.le_of_ble_eq_true rfl) rfl rfl ?_
      refine c_reckon hR hW h12 (fun N' f1 f2 f3 => ?_)
      refine r_pop2l rfl iX9_which_29 ?_
      refine ld_a0 iX9_which_30 ?_
      refine gf_X9_point kFX9_19 iX9_which_31 ?_
      refine gf_X3_segments kFX9_171 iX9_which_34 ?_
      refine ld_i1 iX9_which_37 ?_
      refine al_6 (n := (a.toNat)) (by omega) (by omega) iX9_which_38 ?_
      refine t_int rfl iX9_which_39 ?_
      have y := hq1 ⟨h5.1, h5.2, h12⟩ N' g (XT.frp hX f1)
      rw [(f2 a.toNat (by omega)).2.2]; exact y
    · have h12 := tf_n h12
      refine r_iconst iX9_which_15 ?_
      refine t_int rfl iX9_which_16 ?_
      exact hq0 (by omega)
theorem x_piece {a i what : Int} {Pq : Int → Nm → Ge → Prop} (hX : XS N g d) (ra : rI a) (ri : rI i) (rw' : rI what) (hq1 : N 0 0 9 = 1 ∧ (-1 ≤ a ∧ a < dA d) ∧ 0 ≤ i → ∀ P s, Ps (LF d (dB d) (rwo a)) P s → ∀ N' g', XT N g d N' g' → Pq (pcA (LF d (dB d) (rwo a)) P s i what) N' g') (hq0 : ¬ (N 0 0 9 = 1 ∧ (-1 ≤ a ∧ a < dA d) ∧ 0 ≤ i) → Pq HID N g) : Ck K YX9_piece hX9_piece [vr 0 0, vi a, vi i, vi what] N g (qL Pq) := by
  refine Ck.intro 1 (by decide) rfl ?_
  show AW _ _ _ _ _ [some (vr 0 0), some (vi a), some (vi i), some (vi what), none] _ _ _
  have t24 : ∀ N1 g1, (Pq HID N1 g1) → AW K YX9_piece hX9_piece (qL Pq) 24 [some (vr 0 0), some (vi a), some (vi i), some (vi what), none] [] N1 g1 := by
    intro N1 g1 hp
    refine r_ldc2 (z := -9000000000000000000) kKX9_155 (by decide) iX9_piece_24 ?_
    refine t_long rfl iX9_piece_27 ?_
    exact hp
  refine ld_a0 iX9_piece_0 ?_
  refine ld_i1 iX9_piece_1 ?_
  refine xX9_isLine kMX9_149 iX9_piece_2 (by decide) (Nat.le_of_ble_eq_true rfl) rfl rfl ?_
  refine c_xisLine hX ra ?_
  refine r_ifeq iX9_piece_5 (by exact tf_r _) (fun h5 => ?_) (fun h5 => ?_)
  · have h5 := tf_n h5
    first
      | exact t24 _ _ (hq0 (by omega))
      | (have y := hq1 ⟨h5.1, h5.2, by omega⟩ P s hps N1 g1 f1
         unfold pcA at y
         rw [if_neg (by omega)] at y
         exact t24 _ _ y)
  · have h5 := tf_y h5
    refine ld_i2 iX9_piece_8 ?_
    refine r_iflt iX9_piece_9 (by omega) (fun h9 => ?_) (fun h9 => ?_)
    · first
        | exact t24 _ _ (hq0 (by omega))
        | (have y := hq1 ⟨h5.1, h5.2, by omega⟩ P s hps N1 g1 f1
           unfold pcA at y
           rw [if_neg (by omega)] at y
           exact t24 _ _ y)
    · refine ld_i2 iX9_piece_12 ?_
      refine ld_a0 iX9_piece_13 ?_
      refine ld_i1 iX9_piece_14 ?_
      refine xX9_line kMX9_100 iX9_piece_15 (by decide) (Nat.le_of_ble_eq_true rfl) rfl rfl ?_
      refine c_xline hX h5.1 h5.2 (fun N1 g1 P s G f1 f2 f3 f4 => ?_)
      obtain ⟨hps, hg⟩ := f3.2.2.2.2.2.st f4
      have hP := hps.P_le
      have f9 : N1 0 0 9 = 1 := by rw [f1.1 0 0 9 (by omega) (by omega)]; exact h5.1
      refine gf_X1_pieces kFX9_104 iX9_piece_18 ?_
      rw [f3.1]
      refine r_icmplt iX9_piece_21 (by omega) (by omega) (fun h21 => ?_) (fun h21 => ?_)
      · refine ld_a0 iX9_piece_28 ?_
        refine ld_i1 iX9_piece_29 ?_
        refine xX9_line kMX9_100 iX9_piece_30 (by decide) (Nat.le_of_ble_eq_true rfl) rfl rfl ?_
        refine c_xline f1.2.2 f9 h5.2 (fun N2 g2 P2 s2 G2 e1 e2 e3 e4 => ?_)
        obtain ⟨hps2, hg2⟩ := e3.2.2.2.2.2.st e4
        have hPP := (hps.uq hps2).1
        have y := hq1 ⟨h5.1, h5.2, by omega⟩ P2 s2 hps2 N2 g2 (f1.tr e1)
        unfold pcA at y
        obtain ⟨n, hn⟩ : ∃ n : Nat, i = n := ⟨i.toNat, by omega⟩
        subst hn
        rw [show ((n : Nat) : Int).toNat = n from rfl] at y
        have hrows := e3.2.1 n (by omega)
        have hgr := e3.2.2.2.1
        have htp := hps2.top (show n + 1 ≤ P2 by omega)
        have hsl := hps2.lt (show n < P2 by omega)
        refine sv_a4 (by decide) rfl iX9_piece_33 ?_
        refine ld_i3 iX9_piece_35 ?_
        refine r_tsw4 (tg0 := 68) (tg1 := 77) (tg2 := 85) (tg3 := 93) (tgd := 101) iX9_piece_36 (by omega) rfl rfl rfl rfl rfl (fun h36 => ?_) (fun h36 => ?_) (fun h36 => ?_) (fun h36 => ?_) (fun h36 => ?_)
        · refine ld_a4 iX9_piece_68 ?_
          refine gf_X1_starts kFX9_174 iX9_piece_70 ?_
          refine ld_i2 iX9_piece_73 ?_
          refine al_13 rfl (by omega) (by omega) iX9_piece_74 ?_
          rw [hrows.1]
          refine r_i2l (by omega) iX9_piece_75 ?_
          refine t_long rfl iX9_piece_76 ?_
          rw [if_pos (by omega), if_pos (by omega)] at y; exact y
        · refine ld_a4 iX9_piece_77 ?_
          refine ld_i2 iX9_piece_79 ?_
          refine xX1_lastOf kMX9_177 iX9_piece_80 (by decide) (Nat.le_of_ble_eq_true rfl) rfl rfl ?_
          refine c_lastOf e3 (by omega) ?_
          refine r_i2l (by omega) iX9_piece_83 ?_
          refine t_long rfl iX9_piece_84 ?_
          rw [if_pos (by omega), if_neg (by omega), if_pos (by omega)] at y; exact y
        · refine ld_a4 iX9_piece_85 ?_
          refine gf_X1_values kFX9_180 iX9_piece_87 ?_
          refine ld_i2 iX9_piece_90 ?_
          refine al_14 rfl (by omega) (by omega) iX9_piece_91 ?_
          rw [hrows.2.1]
          refine t_long rfl iX9_piece_92 ?_
          rw [if_pos (by omega), if_neg (by omega), if_neg (by omega), if_pos (by omega)] at y; exact y
        · refine ld_a4 iX9_piece_93 ?_
          refine gf_X1_gains kFX9_181 iX9_piece_95 ?_
          refine ld_i2 iX9_piece_98 ?_
          refine al_15 rfl (by omega) (by omega) iX9_piece_99 ?_
          rw [hrows.2.2, hg2 n (by omega)]
          refine t_long rfl iX9_piece_100 ?_
          rw [if_pos (by omega), if_neg (by omega), if_neg (by omega), if_neg (by omega)] at y; exact y
        · refine r_ldc2 (z := -9000000000000000000) kKX9_155 (by decide) iX9_piece_101 ?_
          refine t_long rfl iX9_piece_104 ?_
          rw [if_neg (by omega)] at y; exact y
      · first
          | exact t24 _ _ (hq0 (by omega))
          | (have y := hq1 ⟨h5.1, h5.2, by omega⟩ P s hps N1 g1 f1
             unfold pcA at y
             rw [if_neg (by omega)] at y
             exact t24 _ _ y)
theorem x_pieceAt {a w : Int} {Pq : Int → Nm → Ge → Prop} (hX : XS N g d) (ra : rI a) (rw' : rI w) (hq1 : N 0 0 9 = 1 ∧ (-1 ≤ a ∧ a < dA d) ∧ (0 ≤ w ∧ w ≤ 9999) → ∀ P s, Ps (LF d (dB d) (rwo a)) P s → ∀ (p : Nat) N' g', p < P → s p ≤ w.toNat → w.toNat < s (p + 1) → XT N g d N' g' → Pq p N' g') (hq0 : ¬ (N 0 0 9 = 1 ∧ (-1 ≤ a ∧ a < dA d) ∧ (0 ≤ w ∧ w ≤ 9999)) → Pq (-1) N g) : Ck K YX9_pieceAt hX9_pieceAt [vr 0 0, vi a, vi w] N g (qI Pq) := by
  refine Ck.intro 0 (by decide) rfl ?_
  show AW _ _ _ _ _ [some (vr 0 0), some (vi a), some (vi w)] _ _ _
  refine ld_a0 iX9_pieceAt_0 ?_
  refine ld_i1 iX9_pieceAt_1 ?_
  refine xX9_isLine kMX9_149 iX9_pieceAt_2 (by decide) (Nat.le_of_ble_eq_true rfl) rfl rfl ?_
  refine c_xisLine hX ra ?_
  refine r_ifeq iX9_pieceAt_5 (by exact tf_r _) (fun h5 => ?_) (fun h5 => ?_)
  · have h5 := tf_n h5
    refine r_iconst iX9_pieceAt_27 ?_
    refine t_int rfl iX9_pieceAt_28 ?_
    first
      | exact hq0 (by omega)
      | exact hq1 ⟨h5.1, h5.2, h12⟩ P s hps p N2 g1 e1 e2 e3 (f1.tr (XT.sr f1.2.2 e4))
  · have h5 := tf_y h5
    refine ld_i2 iX9_pieceAt_8 ?_
    refine xX9_isWage kMX9_152 iX9_pieceAt_9 (by decide) (Nat.le_of_ble_eq_true rfl) rfl rfl ?_
    refine c_xisWage rw' ?_
    refine r_ifeq iX9_pieceAt_12 (by exact tf_r _) (fun h12 => ?_) (fun h12 => ?_)
    · have h12 := tf_n h12
      refine r_iconst iX9_pieceAt_27 ?_
      refine t_int rfl iX9_pieceAt_28 ?_
      first
        | exact hq0 (by omega)
        | exact hq1 ⟨h5.1, h5.2, h12⟩ P s hps p N2 g1 e1 e2 e3 (f1.tr (XT.sr f1.2.2 e4))
    · have h12 := tf_y h12
      refine ld_a0 iX9_pieceAt_15 ?_
      refine ld_i1 iX9_pieceAt_16 ?_
      refine xX9_line kMX9_100 iX9_pieceAt_17 (by decide) (Nat.le_of_ble_eq_true rfl) rfl rfl ?_
      refine c_xline hX h5.1 h5.2 (fun N1 g1 P s G f1 f2 f3 f4 => ?_)
      obtain ⟨hps, hg⟩ := f3.2.2.2.2.2.st f4
      obtain ⟨n, hn⟩ : ∃ n : Nat, w = n := ⟨w.toNat, by omega⟩
      subst hn
      refine ld_i2 iX9_pieceAt_20 ?_
      refine xX1_pieceOf kMX9_184 iX9_pieceAt_21 (by decide) (Nat.le_of_ble_eq_true rfl) rfl rfl ?_
      refine c_pieceOf f3 (by omega) (fun p N2 e1 e2 e3 e4 => ?_)
      refine r_goto iX9_pieceAt_24 ?_
      refine t_int rfl iX9_pieceAt_28 ?_
      first
        | exact hq0 (by omega)
        | exact hq1 ⟨h5.1, h5.2, h12⟩ P s hps p N2 g1 e1 e2 e3 (f1.tr (XT.sr f1.2.2 e4))
theorem x_promised {v what : Int} {Pq : Int → Nm → Ge → Prop} (hX : XS N g d) (rv : rL v) (rw' : rI what) (hq1 : N 0 0 9 = 1 ∧ (0 ≤ what ∧ what ≤ 3) → ∀ r N' g', prA (PD d) v what r → XT N g d N' g' → Pq r N' g') (hq0 : ¬ (N 0 0 9 = 1 ∧ (0 ≤ what ∧ what ≤ 3)) → Pq (-1) N g) : Ck K YX9_promised hX9_promised [vr 0 0, vl v, vi what] N g (qI Pq) := by
  have h01 := hX.1
  refine Ck.intro 0 (by decide) rfl ?_
  show AW _ _ _ _ _ [some (vr 0 0), some (vl v), none, some (vi what)] _ _ _
  refine ld_a0 iX9_promised_0 ?_
  refine gf_X9_hasDesk kFX9_65 iX9_promised_1 ?_
  refine r_ifne iX9_promised_4 (by omega) (fun h4 => ?_) (fun h4 => ?_)
  · refine ld_i3 iX9_promised_9 ?_
    refine r_tsw4 (tg0 := 40) (tg1 := 50) (tg2 := 61) (tg3 := 71) (tgd := 81) iX9_promised_10 (by omega) rfl rfl rfl rfl rfl (fun h10 => ?_) (fun h10 => ?_) (fun h10 => ?_) (fun h10 => ?_) (fun h10 => ?_)
    · refine ld_a0 iX9_promised_40 ?_
      refine r_iconst iX9_promised_41 ?_
      refine xX9_line kMX9_100 iX9_promised_42 (by decide) (Nat.le_of_ble_eq_true rfl) rfl rfl ?_
      refine c_xline hX (by omega) (by omega) (fun N1 g1 P s G f1 f2 f3 f4 => ?_)
      refine ld_l1 iX9_promised_45 ?_
      refine xX1_wagesWith kMX9_187 iX9_promised_46 (by decide) (Nat.le_of_ble_eq_true rfl) rfl rfl ?_
      refine c_wagesWith f3 rv ?_
      refine t_int rfl iX9_promised_49 ?_
      exact hq1 ⟨by omega, by omega⟩ _ _ _ ⟨fun _ => rfl, fun q => by omega, fun q => by omega, fun q => by omega⟩ f1
    · refine ld_a0 iX9_promised_50 ?_
      refine r_iconst iX9_promised_51 ?_
      refine xX9_line kMX9_100 iX9_promised_52 (by decide) (Nat.le_of_ble_eq_true rfl) rfl rfl ?_
      refine c_xline hX (by omega) (by omega) (fun N1 g1 P s G f1 f2 f3 f4 => ?_)
      refine r_iconst iX9_promised_55 ?_
      refine ld_l1 iX9_promised_56 ?_
      refine xX1_leastNoLess kMX9_191 iX9_promised_57 (by decide) (Nat.le_of_ble_eq_true rfl) rfl rfl ?_
      refine c_leastNoLess (a := 0) f3 (by omega) rv (fun r N2 e1 e2 => ?_)
      refine t_int rfl iX9_promised_60 ?_
      exact hq1 ⟨by omega, by omega⟩ _ _ _ ⟨fun q => by omega, fun _ => e2, fun q => by omega, fun q => by omega⟩ (f1.tr (XT.sr f1.2.2 e1))
    · refine ld_a0 iX9_promised_61 ?_
      refine r_iconst iX9_promised_62 ?_
      refine xX9_line kMX9_100 iX9_promised_63 (by decide) (Nat.le_of_ble_eq_true rfl) rfl rfl ?_
      refine c_xline hX (by omega) (by omega) (fun N1 g1 P s G f1 f2 f3 f4 => ?_)
      refine ld_l1 iX9_promised_66 ?_
      refine xX1_greatestNoMore kMX9_195 iX9_promised_67 (by decide) (Nat.le_of_ble_eq_true rfl) rfl rfl ?_
      refine c_greatestNoMore f3 rv (fun r e2 => ?_)
      refine t_int rfl iX9_promised_70 ?_
      exact hq1 ⟨by omega, by omega⟩ _ _ _ ⟨fun q => by omega, fun q => by omega, fun _ => e2, fun q => by omega⟩ f1
    · refine ld_a0 iX9_promised_71 ?_
      refine r_iconst iX9_promised_72 ?_
      refine xX9_line kMX9_100 iX9_promised_73 (by decide) (Nat.le_of_ble_eq_true rfl) rfl rfl ?_
      refine c_xline hX (by omega) (by omega) (fun N1 g1 P s G f1 f2 f3 f4 => ?_)
      refine ld_l1 iX9_promised_76 ?_
      refine xX1_nearestBelow kMX9_198 iX9_promised_77 (by decide) (Nat.le_of_ble_eq_true rfl) rfl rfl ?_
      refine c_nearestBelow f3 rv (fun r e2 => ?_)
      refine t_int rfl iX9_promised_80 ?_
      exact hq1 ⟨by omega, by omega⟩ _ _ _ ⟨fun q => by omega, fun q => by omega, fun q => by omega, fun _ => e2⟩ f1
    · refine r_iconst iX9_promised_81 ?_
      refine t_int rfl iX9_promised_82 ?_
      exact hq0 (by omega)
  · refine r_iconst iX9_promised_7 ?_
    refine t_int rfl iX9_promised_8 ?_
    exact hq0 (by omega)
theorem x_exactly {v i : Int} {Pq : Int → Nm → Ge → Prop} (hX : XS N g d) (rv : rL v) (ri : rI i) (hq1 : N 0 0 9 = 1 → ∀ r N' g', Kth (fun w => decide (PD d w = v)) 10000 i r → XT N g d N' g' → Pq r N' g') (hq0 : ¬ N 0 0 9 = 1 → Pq (-1) N g) : Ck K YX9_exactly hX9_exactly [vr 0 0, vl v, vi i] N g (qI Pq) := by
  have h01 := hX.1
  refine Ck.intro 0 (by decide) rfl ?_
  show AW _ _ _ _ _ [some (vr 0 0), some (vl v), none, some (vi i)] _ _ _
  refine ld_a0 iX9_exactly_0 ?_
  refine gf_X9_hasDesk kFX9_65 iX9_exactly_1 ?_
  refine r_ifeq iX9_exactly_4 (by omega) (fun h4 => ?_) (fun h4 => ?_)
  · refine r_iconst iX9_exactly_24 ?_
    refine t_int rfl iX9_exactly_25 ?_
    first
      | exact hq0 (by omega)
      | exact hq1 (by omega) _ _ _ (Or.inl ⟨rfl, by omega⟩) (XT.rf hX)
      | exact hq1 (by omega) _ _ _ e2 f1
  · refine ld_i3 iX9_exactly_7 ?_
    refine r_iflt iX9_exactly_8 (by omega) (fun h8 => ?_) (fun h8 => ?_)
    · refine r_iconst iX9_exactly_24 ?_
      refine t_int rfl iX9_exactly_25 ?_
      first
        | exact hq0 (by omega)
        | exact hq1 (by omega) _ _ _ (Or.inl ⟨rfl, by omega⟩) (XT.rf hX)
        | exact hq1 (by omega) _ _ _ e2 f1
    · refine ld_a0 iX9_exactly_11 ?_
      refine r_iconst iX9_exactly_12 ?_
      refine xX9_line kMX9_100 iX9_exactly_13 (by decide) (Nat.le_of_ble_eq_true rfl) rfl rfl ?_
      refine c_xline hX (by omega) (by omega) (fun N1 g1 P s G f1 f2 f3 f4 => ?_)
      refine ld_l1 iX9_exactly_16 ?_
      refine ld_i3 iX9_exactly_17 ?_
      refine xX1_wageWith kMX9_201 iX9_exactly_18 (by decide) (Nat.le_of_ble_eq_true rfl) rfl rfl ?_
      refine c_wageWith f3 rv (by omega) (fun r e2 => ?_)
      refine r_goto iX9_exactly_21 ?_
      refine t_int rfl iX9_exactly_25 ?_
      first
        | exact hq0 (by omega)
        | exact hq1 (by omega) _ _ _ (Or.inl ⟨rfl, by omega⟩) (XT.rf hX)
        | exact hq1 (by omega) _ _ _ e2 f1
theorem x_cliff {i what : Int} {Pq : Int → Nm → Ge → Prop} (hX : XS N g d) (ri : rI i) (rw' : rI what) (hq1 : N 0 0 9 = 1 ∧ 0 ≤ i ∧ (0 ≤ what ∧ what ≤ 3) → ∀ r N' g', clA (PD d) i what r → XT N g d N' g' → Pq r N' g') (hq0 : ¬ (N 0 0 9 = 1 ∧ 0 ≤ i ∧ (0 ≤ what ∧ what ≤ 3)) → Pq HID N g) : Ck K YX9_cliff hX9_cliff [vr 0 0, vi i, vi what] N g (qL Pq) := by
  have h01 := hX.1
  refine Ck.intro 2 (by decide) rfl ?_
  show AW _ _ _ _ _ [some (vr 0 0), some (vi i), some (vi what), none, none] _ _ _
  refine ld_a0 iX9_cliff_0 ?_
  refine gf_X9_hasDesk kFX9_65 iX9_cliff_1 ?_
  refine r_ifeq iX9_cliff_4 (by omega) (fun h4 => ?_) (fun h4 => ?_)
  · refine r_ldc2 (z := -9000000000000000000) kKX9_155 (by decide) iX9_cliff_20 ?_
    refine t_long rfl iX9_cliff_23 ?_
    exact hq0 (by omega)
  · refine ld_i1 iX9_cliff_7 ?_
    refine r_iflt iX9_cliff_8 (by omega) (fun h8 => ?_) (fun h8 => ?_)
    · refine r_ldc2 (z := -9000000000000000000) kKX9_155 (by decide) iX9_cliff_20 ?_
      refine t_long rfl iX9_cliff_23 ?_
      exact hq0 (by omega)
    · refine ld_i2 iX9_cliff_11 ?_
      refine r_iflt iX9_cliff_12 (by omega) (fun h12 => ?_) (fun h12 => ?_)
      · refine r_ldc2 (z := -9000000000000000000) kKX9_155 (by decide) iX9_cliff_20 ?_
        refine t_long rfl iX9_cliff_23 ?_
        exact hq0 (by omega)
      · refine ld_i2 iX9_cliff_15 ?_
        refine r_iconst iX9_cliff_16 ?_
        refine r_icmple iX9_cliff_17 (by omega) (by omega) (fun h17 => ?_) (fun h17 => ?_)
        · refine ld_a0 iX9_cliff_24 ?_
          refine r_iconst iX9_cliff_25 ?_
          refine xX9_line kMX9_100 iX9_cliff_26 (by decide) (Nat.le_of_ble_eq_true rfl) rfl rfl ?_
          refine c_xline hX (by omega) (by omega) (fun N1 g1 P s G f1 f2 f3 f4 => ?_)
          have hq1 := hq1 ⟨by omega, by omega, by omega⟩
          refine sv_a3 (by decide) rfl iX9_cliff_29 ?_
          refine ld_a3 iX9_cliff_30 ?_
          refine ld_i1 iX9_cliff_31 ?_
          refine xX1_cliffWage kMX9_205 iX9_cliff_32 (by decide) (Nat.le_of_ble_eq_true rfl) rfl rfl ?_
          refine c_cliffWage f3 (by omega) (fun r e2 => ?_)
          have hr1 : rI r := by rcases e2 with ⟨q, -⟩ | ⟨w, q, q2, -⟩ <;> omega
          refine sv_i4 (by decide) rfl iX9_cliff_35 ?_
          refine ld_i4 iX9_cliff_37 ?_
          refine r_iconst iX9_cliff_39 ?_
          refine r_icmpne iX9_cliff_40 (by omega) (by omega) (fun h40 => ?_) (fun h40 => ?_)
          · obtain ⟨c, q1, q2, q3, q4⟩ := e2.resolve_left (fun q => by omega)
            subst q1
            have hc0 : 0 < c ∧ PD d c < PD d (c - 1) := of_decide_eq_true q3
            have bc := f3.2.2.2.2.1 c q2
            have bc1 := f3.2.2.2.2.1 (c - 1) (by omega)
            refine ld_i2 iX9_cliff_47 ?_
            refine r_tsw3 (tg0 := 76) (tg1 := 80) (tg2 := 96) (tgd := 104) iX9_cliff_48 (by omega) rfl rfl rfl rfl (fun h48 => ?_) (fun h48 => ?_) (fun h48 => ?_) (fun h48 => ?_)
            · refine ld_i4 iX9_cliff_76 ?_
              refine r_i2l (by omega) iX9_cliff_78 ?_
              refine t_long rfl iX9_cliff_79 ?_
              exact hq1 _ _ _ (Or.inr ⟨c, by omega, q3, q4, fun _ => rfl, fun q => by omega, fun q => by omega, fun q => by omega⟩) f1
            · refine ld_a3 iX9_cliff_80 ?_
              refine ld_i4 iX9_cliff_81 ?_
              refine r_iconst iX9_cliff_83 ?_
              refine r_isub iX9_cliff_84 ?_
              rw [show (c : Int) - 1 = ((c - 1 : Nat) : Int) by omega]
              refine xX1_valueAt kMX9_208 iX9_cliff_85 (by decide) (Nat.le_of_ble_eq_true rfl) rfl rfl ?_
              refine c_valueAt f3 (by omega) (fun N2 e1 => ?_)
              refine ld_a3 iX9_cliff_88 ?_
              refine ld_i4 iX9_cliff_89 ?_
              refine xX1_valueAt kMX9_208 iX9_cliff_91 (by decide) (Nat.le_of_ble_eq_true rfl) rfl rfl ?_
              refine c_valueAt (f3.sr e1) (by omega) (fun N3 e5 => ?_)
              refine r_lsub iX9_cliff_94 ?_
              refine t_long rfl iX9_cliff_95 ?_
              exact hq1 _ _ _ (Or.inr ⟨c, by omega, q3, q4, fun q => by omega, fun _ => rfl, fun q => by omega, fun q => by omega⟩) (f1.tr (XT.sr f1.2.2 (e1.tr e5)))
            · refine ld_a3 iX9_cliff_96 ?_
              refine ld_i4 iX9_cliff_97 ?_
              refine xX1_backFrom kMX9_212 iX9_cliff_99 (by decide) (Nat.le_of_ble_eq_true rfl) rfl rfl ?_
              refine c_backFrom f3 (by omega) (fun r N2 e1 e6 => ?_)
              have hrr : rI r := by rcases e6 with ⟨q, -⟩ | ⟨w, q, q2, q5, -⟩ <;> omega
              refine r_i2l (by omega) iX9_cliff_102 ?_
              refine t_long rfl iX9_cliff_103 ?_
              exact hq1 _ _ _ (Or.inr ⟨c, by omega, q3, q4, fun q => by omega, fun q => by omega, fun _ => e6, fun q => by omega⟩) (f1.tr (XT.sr f1.2.2 e1))
            · refine ld_a3 iX9_cliff_104 ?_
              refine ld_i4 iX9_cliff_105 ?_
              refine xX1_trapFrom kMX9_215 iX9_cliff_107 (by decide) (Nat.le_of_ble_eq_true rfl) rfl rfl ?_
              refine c_trapFrom f3 (by omega) (fun r N2 e1 e6 => ?_)
              have hrr : rI ((if r = -1 then 10000 else r) - (c : Int)) := by rcases e6 with ⟨q, -⟩ | ⟨w, q, q2, q5, -⟩ <;> split <;> omega
              refine r_i2l (by omega) iX9_cliff_110 ?_
              refine t_long rfl iX9_cliff_111 ?_
              exact hq1 _ _ _ (Or.inr ⟨c, by omega, q3, q4, fun q => by omega, fun q => by omega, fun q => by omega, fun _ => ⟨r, e6, rfl⟩⟩) (f1.tr (XT.sr f1.2.2 e1))
          · refine r_ldc2 (z := -9000000000000000000) kKX9_155 (by decide) iX9_cliff_43 ?_
            refine t_long rfl iX9_cliff_46 ?_
            rcases e2 with ⟨q, z⟩ | ⟨w, q, -⟩
            · exact hq1 _ _ _ (Or.inl ⟨rfl, fun y => z ⟨by omega, y⟩⟩) f1
            · exfalso; omega
        · refine r_ldc2 (z := -9000000000000000000) kKX9_155 (by decide) iX9_cliff_20 ?_
          refine t_long rfl iX9_cliff_23 ?_
          exact hq0 (by omega)
theorem x_more {w : Int} {Pq : Int → Nm → Ge → Prop} (hX : XS N g d) (rw' : rI w) (hq1 : N 0 0 9 = 1 ∧ (0 ≤ w ∧ w < 9999) → ∀ N' g', XT N g d N' g' → Pq (paid d (dB d) (-1) 0 (w + 1) - paid d (dB d) (-1) 0 w) N' g') (hq0 : ¬ (N 0 0 9 = 1 ∧ (0 ≤ w ∧ w < 9999)) → Pq HID N g) : Ck K YX9_more hX9_more [vr 0 0, vi w] N g (qL Pq) := by
  have h01 := hX.1
  refine Ck.intro 0 (by decide) rfl ?_
  show AW _ _ _ _ _ [some (vr 0 0), some (vi w)] _ _ _
  refine ld_a0 iX9_more_0 ?_
  refine gf_X9_hasDesk kFX9_65 iX9_more_1 ?_
  refine r_ifeq iX9_more_4 (by omega) (fun h4 => ?_) (fun h4 => ?_)
  · refine r_ldc2 (z := -9000000000000000000) kKX9_155 (by decide) iX9_more_18 ?_
    refine t_long rfl iX9_more_21 ?_
    exact hq0 (by omega)
  · refine ld_i1 iX9_more_7 ?_
    refine r_iflt iX9_more_8 (by omega) (fun h8 => ?_) (fun h8 => ?_)
    · refine r_ldc2 (z := -9000000000000000000) kKX9_155 (by decide) iX9_more_18 ?_
      refine t_long rfl iX9_more_21 ?_
      exact hq0 (by omega)
    · refine ld_i1 iX9_more_11 ?_
      refine r_sipush (by decide) iX9_more_12 ?_
      refine r_icmplt iX9_more_15 (by omega) (by omega) (fun h15 => ?_) (fun h15 => ?_)
      · refine ld_a0 iX9_more_22 ?_
        refine gf_X9_point kFX9_19 iX9_more_23 ?_
        refine ld_a0 iX9_more_26 ?_
        refine gf_X9_rules kFX9_58 iX9_more_27 ?_
        refine ld_i1 iX9_more_30 ?_
        refine r_iconst iX9_more_31 ?_
        refine r_iadd iX9_more_32 ?_
        obtain ⟨hW, hR, -⟩ := hX.2.2 (by omega)
        refine xX3_reckon kMX9_157 iX9_more_33 (by decide) (Nat.le_of_ble_eq_true rfl) rfl rfl ?_
        refine c_reckon hR hW (by omega) (fun N1 f1 f2 f3 => ?_)
        refine ld_a0 iX9_more_36 ?_
        refine gf_X9_point kFX9_19 iX9_more_37 ?_
        refine ld_a0 iX9_more_40 ?_
        refine gf_X9_rules kFX9_58 iX9_more_41 ?_
        refine ld_i1 iX9_more_44 ?_
        refine xX3_reckon kMX9_157 iX9_more_45 (by decide) (Nat.le_of_ble_eq_true rfl) rfl rfl ?_
        refine c_reckon (hR.frp f1) hW (by omega) (fun N2 e1 e2 e3 => ?_)
        refine r_lsub iX9_more_48 ?_
        refine t_long rfl iX9_more_49 ?_
        exact hq1 ⟨by omega, by omega⟩ N2 g (XT.frp hX (f1.tr e1))
      · refine r_ldc2 (z := -9000000000000000000) kKX9_155 (by decide) iX9_more_18 ?_
        refine t_long rfl iX9_more_21 ?_
        exact hq0 (by omega)
theorem x_jumps {a : Int} {Pq : Int → Nm → Ge → Prop} (hX : XS N g d) (ra : rI a) (hq1 : N 0 0 9 = 1 ∧ (-1 ≤ a ∧ a < dA d) → ∀ P s, Ps (LF d (dB d) (rwo a)) P s → ∀ N' g', XT N g d N' g' → Pq (ct (jmS (LF d (dB d) (rwo a)) s) P) N' g') (hq0 : ¬ (N 0 0 9 = 1 ∧ (-1 ≤ a ∧ a < dA d)) → Pq (-1) N g) : Ck K YX9_jumps hX9_jumps [vr 0 0, vi a] N g (qI Pq) := by
  refine Ck.intro 0 (by decide) rfl ?_
  show AW _ _ _ _ _ [some (vr 0 0), some (vi a)] _ _ _
  refine ld_a0 iX9_jumps_0 ?_
  refine ld_i1 iX9_jumps_1 ?_
  refine xX9_isLine kMX9_149 iX9_jumps_2 (by decide) (Nat.le_of_ble_eq_true rfl) rfl rfl ?_
  refine c_xisLine hX ra ?_
  refine r_ifeq iX9_jumps_5 (by exact tf_r _) (fun h5 => ?_) (fun h5 => ?_)
  · have h5 := tf_n h5
    refine r_iconst iX9_jumps_19 ?_
    refine t_int rfl iX9_jumps_20 ?_
    first
      | exact hq0 h5
      | exact hq1 h5 P s hps N1 g1 f1
  · have h5 := tf_y h5
    refine ld_a0 iX9_jumps_8 ?_
    refine ld_i1 iX9_jumps_9 ?_
    refine xX9_line kMX9_100 iX9_jumps_10 (by decide) (Nat.le_of_ble_eq_true rfl) rfl rfl ?_
    refine c_xline hX h5.1 h5.2 (fun N1 g1 P s G f1 f2 f3 f4 => ?_)
    obtain ⟨hps, hg⟩ := f3.2.2.2.2.2.st f4
    refine xX1_jumpCount kMX9_234 iX9_jumps_13 (by decide) (Nat.le_of_ble_eq_true rfl) rfl rfl ?_
    refine c_jumpCount f3 ?_
    rw [jm_st hg]
    refine r_goto iX9_jumps_16 ?_
    refine t_int rfl iX9_jumps_20 ?_
    first
      | exact hq0 h5
      | exact hq1 h5 P s hps N1 g1 f1
theorem x_kinks {a what : Int} {Pq : Int → Nm → Ge → Prop} (hX : XS N g d) (ra : rI a) (rw' : rI what) (hq1 : N 0 0 9 = 1 ∧ (-1 ≤ a ∧ a < dA d) ∧ (what = 0 ∨ what = 1) → ∀ P s, Ps (LF d (dB d) (rwo a)) P s → ∀ N' g', XT N g d N' g' → Pq (ct (knS (LF d (dB d) (rwo a)) s (decide (what = 0))) P) N' g') (hq0 : ¬ (N 0 0 9 = 1 ∧ (-1 ≤ a ∧ a < dA d) ∧ (what = 0 ∨ what = 1)) → Pq (-1) N g) : Ck K YX9_kinks hX9_kinks [vr 0 0, vi a, vi what] N g (qI Pq) := by
  refine Ck.intro 0 (by decide) rfl ?_
  show AW _ _ _ _ _ [some (vr 0 0), some (vi a), some (vi what)] _ _ _
  have t17 : N 0 0 9 = 1 → (-1 ≤ a ∧ a < dA d) → (what = 0 ∨ what = 1) → AW K YX9_kinks hX9_kinks (qI Pq) 17 [some (vr 0 0), some (vi a), some (vi what)] [] N g := by
    intro g1 g2 g3
    have t31 : ∀ N1 g1' P s G (z : Int), z = (if decide (what = 0) then 1 else 0) → XT N g d N1 g1' → Ln N1 g1' (rwo a) (LF d (dB d) (rwo a)) P s G → Cn (LF d (dB d) (rwo a)) P s G → AW K YX9_kinks hX9_kinks (qI Pq) 31 [some (vr 0 0), some (vi a), some (vi what)] [vi z, vr 12 (rwo a)] N1 g1' := by
      intro N1 g1' P s G z hz f1 f3 f4
      obtain ⟨hps, hg⟩ := f3.2.2.2.2.2.st f4
      subst hz
      refine xX1_kinkCount kMX9_314 iX9_kinks_31 (by decide) (Nat.le_of_ble_eq_true rfl) rfl rfl ?_
      refine c_kinkCount f3 ?_
      rw [kn_st hg]
      refine r_goto iX9_kinks_34 ?_
      refine t_int rfl iX9_kinks_38 ?_
      exact hq1 ⟨g1, g2, g3⟩ P s hps N1 g1' f1
    refine ld_a0 iX9_kinks_17 ?_
    refine ld_i1 iX9_kinks_18 ?_
    refine xX9_line kMX9_100 iX9_kinks_19 (by decide) (Nat.le_of_ble_eq_true rfl) rfl rfl ?_
    refine c_xline hX g1 g2 (fun N1 g1' P s G f1 f2 f3 f4 => ?_)
    refine ld_i2 iX9_kinks_22 ?_
    refine r_ifne iX9_kinks_23 (by omega) (fun h23 => ?_) (fun h23 => ?_)
    · refine r_iconst iX9_kinks_30 ?_
      refine t31 N1 g1' P s G _ ?_ f1 f3 f4
      first
        | rw [if_pos (decide_eq_true h23)]
        | rw [if_neg (by simpa using h23)]
    · refine r_iconst iX9_kinks_26 ?_
      refine r_goto iX9_kinks_27 ?_
      refine t31 N1 g1' P s G _ ?_ f1 f3 f4
      first
        | rw [if_pos (decide_eq_true h23)]
        | rw [if_neg (by simpa using h23)]
  refine ld_a0 iX9_kinks_0 ?_
  refine ld_i1 iX9_kinks_1 ?_
  refine xX9_isLine kMX9_149 iX9_kinks_2 (by decide) (Nat.le_of_ble_eq_true rfl) rfl rfl ?_
  refine c_xisLine hX ra ?_
  refine r_ifeq iX9_kinks_5 (by exact tf_r _) (fun h5 => ?_) (fun h5 => ?_)
  · have h5 := tf_n h5
    refine r_iconst iX9_kinks_37 ?_
    refine t_int rfl iX9_kinks_38 ?_
    exact hq0 (by omega)
  · have h5 := tf_y h5
    refine ld_i2 iX9_kinks_8 ?_
    refine r_ifeq iX9_kinks_9 (by omega) (fun h9 => ?_) (fun h9 => ?_)
    · exact t17 h5.1 h5.2 (by omega)
    · refine ld_i2 iX9_kinks_12 ?_
      refine r_iconst iX9_kinks_13 ?_
      refine r_icmpne iX9_kinks_14 (by omega) (by omega) (fun h14 => ?_) (fun h14 => ?_)
      · refine r_iconst iX9_kinks_37 ?_
        refine t_int rfl iX9_kinks_38 ?_
        exact hq0 (by omega)
      · exact t17 h5.1 h5.2 (by omega)
theorem x_first {a : Int} {Pq : Int → Nm → Ge → Prop} (hX : XS N g d) (ra : rI a) (hq1 : N 0 0 9 = 1 ∧ (0 ≤ a ∧ a < dA d) → ∀ r N' g', Fst (fun w => 1 ≤ LF d (dB d) (rwo a) w) 0 10000 r → XT N g d N' g' → Pq r N' g') (hq0 : ¬ (N 0 0 9 = 1 ∧ (0 ≤ a ∧ a < dA d)) → Pq (-1) N g) : Ck K YX9_first hX9_first [vr 0 0, vi a] N g (qI Pq) := by
  refine Ck.intro 0 (by decide) rfl ?_
  show AW _ _ _ _ _ [some (vr 0 0), some (vi a)] _ _ _
  refine ld_a0 iX9_first_0 ?_
  refine ld_i1 iX9_first_1 ?_
  refine xX9_isAccount kMX9_111 iX9_first_2 (by decide) (Nat.le_of_ble_eq_true rfl) rfl rfl ?_
  refine c_xisAccount hX ra ?_
  refine r_ifeq iX9_first_5 (by exact tf_r _) (fun h5 => ?_) (fun h5 => ?_)
  · have h5 := tf_n h5
    refine r_iconst iX9_first_21 ?_
    refine t_int rfl iX9_first_22 ?_
    first
      | exact hq0 h5
      | exact hq1 h5 r N2 g1 e2 (f1.tr (XT.sr f1.2.2 e1))
  · have h5 := tf_y h5
    refine ld_a0 iX9_first_8 ?_
    refine ld_i1 iX9_first_9 ?_
    refine xX9_line kMX9_100 iX9_first_10 (by decide) (Nat.le_of_ble_eq_true rfl) rfl rfl ?_
    refine c_xline hX h5.1 (by omega) (fun N1 g1 P s G f1 f2 f3 f4 => ?_)
    refine r_iconst iX9_first_13 ?_
    refine r_lconst (v := 1) (by decide) iX9_first_14 ?_
    refine xX1_leastNoLess kMX9_191 iX9_first_15 (by decide) (Nat.le_of_ble_eq_true rfl) rfl rfl ?_
    refine c_leastNoLess (a := 0) f3 (by omega) (by omega) (fun r N2 e1 e2 => ?_)
    refine r_goto iX9_first_18 ?_
    refine t_int rfl iX9_first_22 ?_
    first
      | exact hq0 h5
      | exact hq1 h5 r N2 g1 e2 (f1.tr (XT.sr f1.2.2 e1))
theorem x_raise {w v : Int} {Pq : Int → Nm → Ge → Prop} (hX : XS N g d) (rw' : rI w) (rv : rL v) (hq1 : N 0 0 9 = 1 ∧ (0 ≤ w ∧ w ≤ 9999) ∧ 0 ≤ v → ∀ r N' g', Fst (fun u => v ≤ PD d u - PD d w.toNat) w.toNat 10000 r → XT N g d N' g' → Pq r N' g') (hq0 : ¬ (N 0 0 9 = 1 ∧ (0 ≤ w ∧ w ≤ 9999) ∧ 0 ≤ v) → Pq (-1) N g) : Ck K YX9_raise hX9_raise [vr 0 0, vi w, vl v] N g (qI Pq) := by
  have h01 := hX.1
  refine Ck.intro 1 (by decide) rfl ?_
  show AW _ _ _ _ _ [some (vr 0 0), some (vi w), some (vl v), none, none] _ _ _
  refine ld_a0 iX9_raise_0 ?_
  refine gf_X9_hasDesk kFX9_65 iX9_raise_1 ?_
  refine r_ifeq iX9_raise_4 (by omega) (fun h4 => ?_) (fun h4 => ?_)
  · refine r_iconst iX9_raise_20 ?_
    refine t_int rfl iX9_raise_21 ?_
    exact hq0 (by omega)
  · refine ld_i1 iX9_raise_7 ?_
    refine xX9_isWage kMX9_152 iX9_raise_8 (by decide) (Nat.le_of_ble_eq_true rfl) rfl rfl ?_
    refine c_xisWage rw' ?_
    refine r_ifeq iX9_raise_11 (by exact tf_r _) (fun h11 => ?_) (fun h11 => ?_)
    · have h11 := tf_n h11
      refine r_iconst iX9_raise_20 ?_
      refine t_int rfl iX9_raise_21 ?_
      exact hq0 (by omega)
    · have h11 := tf_y h11
      refine ld_l2 iX9_raise_14 ?_
      refine r_lconst (v := 0) (by decide) iX9_raise_15 ?_
      refine r_lcge iX9_raise_16 iX9_raise_17 (by omega) (by omega) (fun h16 => ?_) (fun h16 => ?_)
      · refine ld_a0 iX9_raise_22 ?_
        refine r_iconst iX9_raise_23 ?_
        refine xX9_line kMX9_100 iX9_raise_24 (by decide) (Nat.le_of_ble_eq_true rfl) rfl rfl ?_
        refine c_xline hX (by omega) (by omega) (fun N1 g1 P s G f1 f2 f3 f4 => ?_)
        obtain ⟨n, hn⟩ : ∃ n : Nat, w = n := ⟨w.toNat, by omega⟩
        subst hn
        have bn := f3.2.2.2.2.1 n (by omega)
        refine sv_a4 (by decide) rfl iX9_raise_27 ?_
        refine ld_a4 iX9_raise_29 ?_
        refine ld_i1 iX9_raise_31 ?_
        refine ld_a4 iX9_raise_32 ?_
        refine ld_i1 iX9_raise_34 ?_
        refine xX1_valueAt kMX9_208 iX9_raise_35 (by decide) (Nat.le_of_ble_eq_true rfl) rfl rfl ?_
        refine c_valueAt f3 (by omega) (fun N2 e1 => ?_)
        refine ld_l2 iX9_raise_38 ?_
        refine r_ldc2 (z := 4000000000000000000) kKX9_293 (by decide) iX9_raise_39 ?_
        refine xJ9_min_f86c9 kMX9_295 iX9_raise_42 (by decide) (Nat.le_of_ble_eq_true rfl) rfl rfl ?_
        refine c_minL rv (by omega) ?_
        refine r_ladd iX9_raise_45 ?_
        refine xX1_leastNoLess kMX9_191 iX9_raise_46 (by decide) (Nat.le_of_ble_eq_true rfl) rfl rfl ?_
        refine c_leastNoLess (f3.sr e1) (by omega) (by omega) (fun r N3 e3 e4 => ?_)
        refine t_int rfl iX9_raise_49 ?_
        refine hq1 ⟨by omega, h11, by omega⟩ r N3 g1 ?_ (f1.tr (XT.sr f1.2.2 (e1.tr e3)))
        refine Fst.cong (fun u u1 u2 => ?_) e4
        have bu := f3.2.2.2.2.1 u u2
        show _ ↔ v ≤ PD d u - PD d n
        have bu : bF (PD d u) := bu
        have bn : bF (PD d n) := bn
        constructor
        · intro q; have q : PD d n + min v 4000000000000000000 ≤ PD d u := q; omega
        · intro q; show PD d n + min v 4000000000000000000 ≤ PD d u; omega
      · refine r_iconst iX9_raise_20 ?_
        refine t_int rfl iX9_raise_21 ?_
        exact hq0 (by omega)
end Ask9
