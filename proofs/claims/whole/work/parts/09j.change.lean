/-! own text: would, most, count -/
def sN (f : Nat → Nat) : Nat → Int
  | 0 => 0
  | n + 1 => sN f n + f n
theorem sN_cg {f f' : Nat → Nat} : ∀ n, (∀ k, k < n → f k = f' k) → sN f n = sN f' n
  | 0, _ => rfl
  | n + 1, h => by rw [sN, sN, sN_cg n (fun k hk => h k (by omega)), h n (by omega)]
theorem sN_bd {f : Nat → Nat} : ∀ n, (∀ k, k < n → f k ≤ 10000) → 0 ≤ sN f n ∧ sN f n ≤ 10000 * n
  | 0, _ => by simp [sN]
  | n + 1, h => by have ih := sN_bd n (fun k hk => h k (by omega)); have := h n (by omega); rw [sN]; omega
section Change7
variable {K : Kx} {N : Nm} {g : Ge} {d : Dk}
theorem x_would {a s v w : Int} {Pq : Int → Nm → Ge → Prop} (hX : XS N g d) (ra : rI a) (rs : rI s) (rv : rI v) (rw' : rI w)
    (hq1 : N 0 0 9 = 1 ∧ IsSg d a s ∧ (0 ≤ v ∧ v ≤ 1999) ∧ (0 ≤ w ∧ w ≤ 9999) → ∀ N', (∀ k i j, k ≤ 2 ∨ (16 ≤ k ∧ k ≤ 19) ∨ 36 ≤ k → N' k i j = N k i j) → XS N' g d → Pq (paid (bnd d a.toNat s.toNat 2 v) (dB d) (-1) 0 w) N' g)
    (hq0 : ¬ (N 0 0 9 = 1 ∧ IsSg d a s ∧ (0 ≤ v ∧ v ≤ 1999) ∧ (0 ≤ w ∧ w ≤ 9999)) → Pq HID N g) : Ck K YX9_would hX9_would [vr 0 0, vi a, vi s, vi v, vi w] N g (qL Pq) := by
  refine Ck.intro 3 (by decide) rfl ?_
  show AW _ _ _ _ _ [some (vr 0 0), some (vi a), some (vi s), some (vi v), some (vi w), none, none, none] _ _ _
  have t32 : N 0 0 9 = 1 → IsSg d a s → (0 ≤ v ∧ v ≤ 1999) → (0 ≤ w ∧ w ≤ 9999) → AW K YX9_would hX9_would (qL Pq) 32 [some (vr 0 0), some (vi a), some (vi s), some (vi v), some (vi w), none, none, none] [] N g := by
    intro h9 hsg hv hw
    have hsg0 := hsg
    unfold IsSg at hsg
    obtain ⟨hW, hR, hst, hdr⟩ := hX.2.2 h9
    have hA := hW.1
    obtain ⟨A, hA1⟩ : ∃ A : Nat, a = A := ⟨a.toNat, by omega⟩
    obtain ⟨S, hS1⟩ : ∃ S : Nat, s = S := ⟨s.toNat, by omega⟩
    subst hA1
    subst hS1
    simp only [Int.toNat_natCast] at hq1 hsg
    have hSS := (hW.2.2.1 A (by omega)).1
    have hS6 := hSS.2.1
    obtain ⟨q1, q2, q3⟩ := hR.2.2.2.1 A (by omega)
    have hWB : WD (bnd d A S 2 v) := bnd_W hW (show A < dA d by omega) (show S < dS d A by omega) ⟨fun y => by omega, fun y => by omega, fun _ => hv⟩
    refine ld_a0 iX9_would_32 ?_
    refine gf_X9_rules kFX9_58 iX9_would_33 ?_
    refine gf_X5_slopes kFX9_139 iX9_would_36 ?_
    refine ld_i1 iX9_would_39 ?_
    refine al_32 rfl (by omega) iX9_would_40 ?_
    refine ld_i2 iX9_would_41 ?_
    refine al_33 rfl (by omega) iX9_would_42 ?_
    rw [(q3 S (by omega)).2.2]
    refine sv_i5 (by decide) rfl iX9_would_43 ?_
    refine ld_a0 iX9_would_45 ?_
    refine gf_X9_rules kFX9_58 iX9_would_46 ?_
    refine gf_X5_slopes kFX9_139 iX9_would_49 ?_
    refine ld_i1 iX9_would_52 ?_
    refine al_32 rfl (by omega) iX9_would_53 ?_
    refine ld_i2 iX9_would_54 ?_
    refine ld_i3 iX9_would_55 ?_
    refine as_33 rfl (by omega) iX9_would_56 ?_
    refine ld_a0 iX9_would_57 ?_
    refine gf_X9_rules kFX9_58 iX9_would_58 ?_
    refine ld_i1 iX9_would_61 ?_
    refine xX5_settle kMX9_249 iX9_would_62 (by decide) (Nat.le_of_ble_eq_true rfl) rfl rfl ?_
    refine c_settle (d := bnd d A S 2 v) (by omega) (hWB.2.2.1 A (show A < dA d by omega)).1 (by rw [upN_k (by omega)]; exact q2) (fun p hp => ?_) (fun N2 e1 e2 => ?_)
    · have hp : p < dS d A := hp
      obtain ⟨f1, f2, f3⟩ := q3 p hp
      rw [bnd_F, bnd_E, bnd_L, if_neg (by omega), if_neg (by omega), upN_k (by omega), upN_k (by omega)]
      refine ⟨f1, f2, ?_⟩
      by_cases c : p = S
      · rw [c, upN_eq, if_pos ⟨rfl, rfl, rfl⟩]
      · rw [upN_j c, if_neg (fun z => c z.2.2)]; exact f3
    have hR2 : RuI N2 g.1 (bnd d A S 2 v) := hR.bnd hA (by omega) (by omega) e1 e2
    refine ld_a0 iX9_would_65 ?_
    refine gf_X9_point kFX9_19 iX9_would_66 ?_
    refine ld_a0 iX9_would_69 ?_
    refine gf_X9_rules kFX9_58 iX9_would_70 ?_
    refine ld_i4 iX9_would_73 ?_
    refine xX3_reckon kMX9_157 iX9_would_75 (by decide) (Nat.le_of_ble_eq_true rfl) rfl rfl ?_
    refine c_reckon hR2 hWB hw (fun N3 k1 k2 k3 => ?_)
    have n33 : ∀ k i j, ¬ (4 ≤ k ∧ k ≤ 6) → ¬ (k = 35 ∧ i = 6 * g.1 + A) → upN N3 33 (6 * g.1 + A) S (dL d A S) k i j = N k i j := fun k i j z1 z2 => by
      by_cases c : k = 33 ∧ i = 6 * g.1 + A ∧ j = S
      · obtain ⟨c1, c2, c3⟩ := c; subst c1; subst c2; subst c3; rw [upN_eq]; exact (q3 j (by omega)).2.2.symm
      · rw [show upN N3 33 (6 * g.1 + A) S (dL d A S) k i j = N3 k i j from if_neg c, k1 k i j z1, e1 k i j z2]; exact if_neg c
    refine sv_l6 (by decide) rfl iX9_would_78 ?_
    refine ld_a0 iX9_would_80 ?_
    refine gf_X9_rules kFX9_58 iX9_would_81 ?_
    refine gf_X5_slopes kFX9_139 iX9_would_84 ?_
    refine ld_i1 iX9_would_87 ?_
    refine al_32 rfl (by omega) iX9_would_88 ?_
    refine ld_i2 iX9_would_89 ?_
    refine ld_i5 iX9_would_90 ?_
    refine as_33 rfl (by omega) iX9_would_92 ?_
    refine ld_a0 iX9_would_93 ?_
    refine gf_X9_rules kFX9_58 iX9_would_94 ?_
    refine ld_i1 iX9_would_97 ?_
    refine xX5_settle kMX9_249 iX9_would_98 (by decide) (Nat.le_of_ble_eq_true rfl) rfl rfl ?_
    refine c_settle (d := d) (by omega) hSS (by rw [n33 27 _ _ (by omega) (by omega)]; exact q2) (fun p hp => ?_) (fun N4 m1 m2 => ?_)
    · rw [n33 29 _ _ (by omega) (by omega), n33 31 _ _ (by omega) (by omega), n33 33 _ _ (by omega) (by omega)]; exact q3 p hp
    refine ld_l6 iX9_would_101 ?_
    refine t_long rfl iX9_would_103 ?_
    have nk : ∀ k i j, ¬ (4 ≤ k ∧ k ≤ 6) → ¬ (k = 35 ∧ i = 6 * g.1 + A) → N4 k i j = N k i j := fun k i j z1 z2 => (m1 k i j z2).trans (n33 k i j z1 z2)
    refine hq1 ⟨h9, hsg0, hv, hw⟩ N4 (fun k i j z => nk k i j (by omega) (by omega)) ⟨by rw [nk 0 _ _ (by omega) (by omega)]; exact hX.1, hX.2.1, fun _ => ⟨hW, ?_, by rw [nk 0 _ _ (by omega) (by omega)]; exact hst, fun z => ?_⟩⟩
    · obtain ⟨r1, r2, r3, r4, r5⟩ := hR
      refine ⟨by rw [nk 20 _ _ (by omega) (by omega)]; exact r1, by rw [nk 20 _ _ (by omega) (by omega)]; exact r2, fun k hk => ?_, fun k hk => ?_, fun k hk p hp => ?_⟩
      · obtain ⟨e1, e2⟩ := r3 k hk
        refine ⟨by rw [nk 21 _ _ (by omega) (by omega)]; exact e1, fun j hj => ?_⟩
        rw [nk 23 _ _ (by omega) (by omega), nk 25 _ _ (by omega) (by omega)]
        exact e2 j hj
      · obtain ⟨e1, e2, e3⟩ := r4 k hk
        refine ⟨by rw [nk 26 _ _ (by omega) (by omega)]; exact e1, by rw [nk 27 _ _ (by omega) (by omega)]; exact e2, fun q hq => ?_⟩
        rw [nk 29 _ _ (by omega) (by omega), nk 31 _ _ (by omega) (by omega), nk 33 _ _ (by omega) (by omega)]
        exact e3 q hq
      · by_cases e : k = A
        · subst e; exact m2 p hp
        · rw [nk 35 _ _ (by omega) (by omega)]; exact r5 k hk p hp
    · rw [nk 0 _ _ (by omega) (by omega)] at z
      exact (hdr z).fr hA (fun k i j z1 z2 => nk k i j (by omega) (by omega)) (fun _ _ => rfl)
  refine ld_a0 iX9_would_0 ?_
  refine ld_i1 iX9_would_1 ?_
  refine ld_i2 iX9_would_2 ?_
  refine xX9_isSegment kMX9_128 iX9_would_3 (by decide) (Nat.le_of_ble_eq_true rfl) rfl rfl ?_
  refine c_xisSegment' hX ra rs (fun z hz => ?_)
  refine r_ifeq iX9_would_6 (by omega) (fun h6 => ?_) (fun h6 => ?_)
  · have hz := (hz.resolve_left (fun q => by omega)).2
    refine r_ldc2 (z := -9000000000000000000) kKX9_155 (by decide) iX9_would_28 ?_
    refine t_long rfl iX9_would_31 ?_
    refine hq0 (fun q => ?_)
    first
      | exact hz ⟨q.1, q.2.1⟩
      | (have := q.2.2; omega)
  · have hz := (hz.resolve_right (fun q => by omega)).2
    refine ld_i4 iX9_would_9 ?_
    refine xX9_isWage kMX9_152 iX9_would_11 (by decide) (Nat.le_of_ble_eq_true rfl) rfl rfl ?_
    refine c_xisWage rw' ?_
    refine r_ifeq iX9_would_14 (by exact tf_r _) (fun h14 => ?_) (fun h14 => ?_)
    · have h14 := tf_n h14
      refine r_ldc2 (z := -9000000000000000000) kKX9_155 (by decide) iX9_would_28 ?_
      refine t_long rfl iX9_would_31 ?_
      refine hq0 (fun q => ?_)
      first
        | exact hz ⟨q.1, q.2.1⟩
        | (have := q.2.2; omega)
    · have h14 := tf_y h14
      refine ld_i3 iX9_would_17 ?_
      refine r_iflt iX9_would_18 (by omega) (fun h18 => ?_) (fun h18 => ?_)
      · refine r_ldc2 (z := -9000000000000000000) kKX9_155 (by decide) iX9_would_28 ?_
        refine t_long rfl iX9_would_31 ?_
        refine hq0 (fun q => ?_)
        first
          | exact hz ⟨q.1, q.2.1⟩
          | (have := q.2.2; omega)
      · refine ld_i3 iX9_would_21 ?_
        refine r_sipush (by decide) iX9_would_22 ?_
        refine r_icmple iX9_would_25 (by omega) (by omega) (fun h25 => ?_) (fun h25 => ?_)
        · exact t32 hz.1 hz.2 (by omega) h14
        · refine r_ldc2 (z := -9000000000000000000) kKX9_155 (by decide) iX9_would_28 ?_
          refine t_long rfl iX9_would_31 ?_
          refine hq0 (fun q => ?_)
          first
            | exact hz ⟨q.1, q.2.1⟩
            | (have := q.2.2; omega)
theorem x_most {w : Int} {Pq : Int → Nm → Ge → Prop} (hX : XS N g d) (rw' : rI w) (hq1 : N 0 0 9 = 1 ∧ (0 ≤ w ∧ w ≤ 9) → ∀ r N' g', moA (PD d) w r → XT N g d N' g' → Pq r N' g') (hq0 : ¬ N 0 0 9 = 1 → Pq HID N g) (hq2 : N 0 0 9 = 1 → ¬ (0 ≤ w ∧ w ≤ 9) → ∀ N' g', XT N g d N' g' → Pq HID N' g') : Ck K YX9_most hX9_most [vr 0 0, vi w] N g (qL Pq) := by
  have h01 := hX.1
  refine Ck.intro 1 (by decide) rfl ?_
  show AW _ _ _ _ _ [some (vr 0 0), some (vi w), none] _ _ _
  refine ld_a0 iX9_most_0 ?_
  refine gf_X9_hasDesk kFX9_65 iX9_most_1 ?_
  refine r_ifne iX9_most_4 (by omega) (fun h4 => ?_) (fun h4 => ?_)
  · refine ld_a0 iX9_most_11 ?_
    refine r_iconst iX9_most_12 ?_
    refine xX9_line kMX9_100 iX9_most_13 (by decide) (Nat.le_of_ble_eq_true rfl) rfl rfl ?_
    refine c_xline hX (by omega) (by omega) (fun N1 g1 P s G f1 f2 f3 f4 => ?_)
    obtain ⟨hps, hg⟩ := f3.2.2.2.2.2.st f4
    have f9 : N1 0 0 9 = 1 := by rw [f1.1 0 0 9 (by omega) (by omega)]; omega
    refine sv_a2 (by decide) rfl iX9_most_16 ?_
    refine ld_i1 iX9_most_17 ?_
    refine r_tsw10 (tg0 := 72) (tg1 := 81) (tg2 := 87) (tg3 := 96) (tg4 := 102) (tg5 := 108) (tg6 := 114) (tg7 := 120) (tg8 := 126) (tg9 := 132) (tgd := 141) iX9_most_18 (by omega) rfl rfl rfl rfl rfl rfl rfl rfl rfl rfl rfl (fun h18 => ?_) (fun h18 => ?_) (fun h18 => ?_) (fun h18 => ?_) (fun h18 => ?_) (fun h18 => ?_) (fun h18 => ?_) (fun h18 => ?_) (fun h18 => ?_) (fun h18 => ?_) (fun h18 => ?_)
    · refine ld_a2 iX9_most_72 ?_
      refine ld_a2 iX9_most_73 ?_
      refine xX1_wageOfMost kMX9_332 iX9_most_74 (by decide) (Nat.le_of_ble_eq_true rfl) rfl rfl ?_
      refine c_wageOfMost f3 (fun b m1 m2 => ?_)
      refine xX1_valueAt kMX9_208 iX9_most_77 (by decide) (Nat.le_of_ble_eq_true rfl) rfl rfl ?_
      refine c_valueAt f3 m1 (fun N2 e1 => ?_)
      refine t_long rfl iX9_most_80 ?_
      exact hq1 ⟨by omega, by omega⟩ _ N2 g1 ⟨fun _ => ⟨b, m2, rfl⟩, fun q => by omega, fun q => by omega, fun q => by omega, fun q => by omega, fun q => by omega, fun q => by omega, fun q => by omega, fun q => by omega, fun q => by omega⟩ (f1.tr (XT.sr f1.2.2 e1))
    · refine ld_a2 iX9_most_81 ?_
      refine xX1_wageOfMost kMX9_332 iX9_most_82 (by decide) (Nat.le_of_ble_eq_true rfl) rfl rfl ?_
      refine c_wageOfMost f3 (fun b m1 m2 => ?_)
      refine r_i2l (by omega) iX9_most_85 ?_
      refine t_long rfl iX9_most_86 ?_
      exact hq1 ⟨by omega, by omega⟩ _ N1 g1 ⟨fun q => by omega, fun _ => m2, fun q => by omega, fun q => by omega, fun q => by omega, fun q => by omega, fun q => by omega, fun q => by omega, fun q => by omega, fun q => by omega⟩ f1
    · refine ld_a2 iX9_most_87 ?_
      refine ld_a2 iX9_most_88 ?_
      refine xX1_wageOfLeast kMX9_335 iX9_most_89 (by decide) (Nat.le_of_ble_eq_true rfl) rfl rfl ?_
      refine c_wageOfLeast f3 (fun b m1 m2 => ?_)
      refine xX1_valueAt kMX9_208 iX9_most_92 (by decide) (Nat.le_of_ble_eq_true rfl) rfl rfl ?_
      refine c_valueAt f3 m1 (fun N2 e1 => ?_)
      refine t_long rfl iX9_most_95 ?_
      exact hq1 ⟨by omega, by omega⟩ _ N2 g1 ⟨fun q => by omega, fun q => by omega, fun _ => ⟨b, m2, rfl⟩, fun q => by omega, fun q => by omega, fun q => by omega, fun q => by omega, fun q => by omega, fun q => by omega, fun q => by omega⟩ (f1.tr (XT.sr f1.2.2 e1))
    · refine ld_a2 iX9_most_96 ?_
      refine xX1_wageOfLeast kMX9_335 iX9_most_97 (by decide) (Nat.le_of_ble_eq_true rfl) rfl rfl ?_
      refine c_wageOfLeast f3 (fun b m1 m2 => ?_)
      refine r_i2l (by omega) iX9_most_100 ?_
      refine t_long rfl iX9_most_101 ?_
      exact hq1 ⟨by omega, by omega⟩ _ N1 g1 ⟨fun q => by omega, fun q => by omega, fun q => by omega, fun _ => m2, fun q => by omega, fun q => by omega, fun q => by omega, fun q => by omega, fun q => by omega, fun q => by omega⟩ f1
    · refine ld_a2 iX9_most_102 ?_
      refine xX1_steepest kMX9_338 iX9_most_103 (by decide) (Nat.le_of_ble_eq_true rfl) rfl rfl ?_
      refine c_steepest f3 f4 (fun b m1 m2 => ?_)
      refine r_i2l (by omega) iX9_most_106 ?_
      refine t_long rfl iX9_most_107 ?_
      exact hq1 ⟨by omega, by omega⟩ _ N1 g1 ⟨fun q => by omega, fun q => by omega, fun q => by omega, fun q => by omega, fun _ => m2, fun q => by omega, fun q => by omega, fun q => by omega, fun q => by omega, fun q => by omega⟩ f1
    · refine ld_a2 iX9_most_108 ?_
      refine xX1_flatPieces kMX9_341 iX9_most_109 (by decide) (Nat.le_of_ble_eq_true rfl) rfl rfl ?_
      refine c_flatPieces f3 ?_
      rw [fl_st hg]
      have hcl := ct_le (flS (LF d (dB d) (rwo (-1))) s) P
      have hPl := hps.P_le
      refine r_i2l (by omega) iX9_most_112 ?_
      refine t_long rfl iX9_most_113 ?_
      exact hq1 ⟨by omega, by omega⟩ _ N1 g1 ⟨fun q => by omega, fun q => by omega, fun q => by omega, fun q => by omega, fun q => by omega, fun _ => ⟨P, s, hps, rfl⟩, fun q => by omega, fun q => by omega, fun q => by omega, fun q => by omega⟩ f1
    · refine ld_a2 iX9_most_114 ?_
      refine xX1_longestTrap kMX9_344 iX9_most_115 (by decide) (Nat.le_of_ble_eq_true rfl) rfl rfl ?_
      refine c_longestTrap f3 ?_
      have hcl := (rn_le (trB (LF d (dB d) (rwo (-1)))) 10000).2
      refine r_i2l (by omega) iX9_most_118 ?_
      refine t_long rfl iX9_most_119 ?_
      exact hq1 ⟨by omega, by omega⟩ _ N1 g1 ⟨fun q => by omega, fun q => by omega, fun q => by omega, fun q => by omega, fun q => by omega, fun q => by omega, fun _ => rfl, fun q => by omega, fun q => by omega, fun q => by omega⟩ f1
    · refine ld_a2 iX9_most_120 ?_
      refine xX1_trappedWages kMX9_347 iX9_most_121 (by decide) (Nat.le_of_ble_eq_true rfl) rfl rfl ?_
      refine c_trappedWages f3 ?_
      have hcl := ct_le (trB (LF d (dB d) (rwo (-1)))) 10000
      refine r_i2l (by omega) iX9_most_124 ?_
      refine t_long rfl iX9_most_125 ?_
      exact hq1 ⟨by omega, by omega⟩ _ N1 g1 ⟨fun q => by omega, fun q => by omega, fun q => by omega, fun q => by omega, fun q => by omega, fun q => by omega, fun q => by omega, fun _ => rfl, fun q => by omega, fun q => by omega⟩ f1
    · refine ld_a2 iX9_most_126 ?_
      refine xX1_greatestPiece kMX9_350 iX9_most_127 (by decide) (Nat.le_of_ble_eq_true rfl) rfl rfl ?_
      refine c_greatestPiece f3 (fun r m1 => ?_)
      have hPl := hps.P_le
      have hrr : rI r := by rcases m1 with ⟨q, -⟩ | ⟨w, q, q2, -⟩ <;> omega
      refine r_i2l (by omega) iX9_most_130 ?_
      refine t_long rfl iX9_most_131 ?_
      exact hq1 ⟨by omega, by omega⟩ _ N1 g1 ⟨fun q => by omega, fun q => by omega, fun q => by omega, fun q => by omega, fun q => by omega, fun q => by omega, fun q => by omega, fun q => by omega, fun _ => ⟨P, s, hps, m1⟩, fun q => by omega⟩ f1
    · refine ld_a0 iX9_most_132 ?_
      refine ld_a2 iX9_most_133 ?_
      refine xX1_steepest kMX9_338 iX9_most_134 (by decide) (Nat.le_of_ble_eq_true rfl) rfl rfl ?_
      refine c_steepest f3 f4 (fun b m1 m2 => ?_)
      refine xX9_more kMX9_353 iX9_most_137 (by decide) (Nat.le_of_ble_eq_true rfl) rfl rfl ?_
      refine x_more f1.2.2 (by omega) (fun _ N2 g2 e1 => ?_) (fun q => absurd ⟨f9, by omega, by omega⟩ q)
      refine t_long rfl iX9_most_140 ?_
      refine hq1 ⟨by omega, by omega⟩ _ N2 g2 ⟨fun q => by omega, fun q => by omega, fun q => by omega, fun q => by omega, fun q => by omega, fun q => by omega, fun q => by omega, fun q => by omega, fun q => by omega, fun _ => ⟨b, m2, ?_⟩⟩ (f1.tr e1)
      rw [PD_eq, PD_eq, show ((b + 1 : Nat) : Int) = (b : Int) + 1 by omega]
    · refine r_ldc2 (z := -9000000000000000000) kKX9_155 (by decide) iX9_most_141 ?_
      refine t_long rfl iX9_most_144 ?_
      exact hq2 (by omega) (by omega) N1 g1 f1
  · refine r_ldc2 (z := -9000000000000000000) kKX9_155 (by decide) iX9_most_7 ?_
    refine t_long rfl iX9_most_10 ?_
    exact hq0 (by omega)
theorem x_count {w : Int} {Pq : Int → Nm → Ge → Prop} (hX : XS N g d) (rw' : rI w) (hqL : w = 0 → Pq (N 1 0 1) N g) (hq1 : w = 1 → N 0 0 9 = 1 → Pq (sN (dS d) (dA d)) N g) (hq2 : w = 2 → N 0 0 9 = 1 → ∀ f N' g', (∀ a, a < dA d → ∃ s, Ps (LF d (dB d) a) (f a) s) → XT N g d N' g' → Pq (sN f (dA d)) N' g') (hq0 : w ≠ 0 → ¬ (N 0 0 9 = 1 ∧ (0 ≤ w ∧ w ≤ 2)) → Pq (-1) N g) : Ck K YX9_count hX9_count [vr 0 0, vi w] N g (qI Pq) := by
  have h01 := hX.1
  refine Ck.intro 2 (by decide) rfl ?_
  show AW _ _ _ _ _ [some (vr 0 0), some (vi w), none, none] _ _ _
  have loop : N 0 0 9 = 1 → (w = 1 ∨ w = 2) → ∀ (n a : Nat) (t c : Int) (f : Nat → Nat) (N' : Nm) (g' : Ge), dA d - a = n → a ≤ dA d → c = a → t = sN f a → (w = 1 → f = dS d ∧ N' = N ∧ g' = g) → (∀ k, k < a → w = 2 → ∃ s, Ps (LF d (dB d) k) (f k) s) → XT N g d N' g' → AW K YX9_count hX9_count (qI Pq) 34 [some (vr 0 0), some (vi w), some (vi t), some (vi c)] [] N' g' := by
    intro h9 hw n
    induction n using Nat.strongRecOn with
    | _ n ih =>
      intro a t c f N' g' e ha hc ht h1 h2 hT
      subst hc
      have h9' : N' 0 0 9 = 1 := by rw [hT.1 0 0 9 (by omega) (by omega)]; exact h9
      obtain ⟨hW, hR, -⟩ := hT.2.2.2.2 h9'
      have hA := hW.1
      refine ld_i3 iX9_count_34 ?_
      refine ld_a0 iX9_count_35 ?_
      refine gf_X9_rules kFX9_58 iX9_count_36 ?_
      refine gf_X5_accounts kFX9_91 iX9_count_39 ?_
      rw [hR.1]
      refine r_icmpge iX9_count_42 (by omega) (by omega) (fun h42 => ?_) (fun h42 => ?_)
      · refine ld_i2 iX9_count_79 ?_
        refine t_int rfl iX9_count_80 ?_
        have e : a = dA d := by omega
        subst e
        rcases hw with q | q
        · obtain ⟨e1, e2, e3⟩ := h1 q
          rw [ht, e1, e2, e3]; exact hq1 q h9
        · rw [ht]; exact hq2 q h9 f N' g' (fun k hk => h2 k hk q) hT
      · have ha1 : a < dA d := by omega
        refine ld_i2 iX9_count_45 ?_
        refine ld_i1 iX9_count_46 ?_
        refine r_iconst iX9_count_47 ?_
        refine r_icmpne iX9_count_48 (by omega) (by omega) (fun h48 => ?_) (fun h48 => ?_)
        · refine ld_a0 iX9_count_63 ?_
          refine ld_i3 iX9_count_64 ?_
          refine xX9_line kMX9_100 iX9_count_65 (by decide) (Nat.le_of_ble_eq_true rfl) rfl rfl ?_
          refine c_xline hT.2.2 h9' (by omega) (fun N1 g1 P s G f1 f2 f3 f4 => ?_)
          rw [show rwo (a : Int) = a by unfold rwo; rw [if_neg (by omega)]; rfl] at f3 f4 ⊢
          obtain ⟨hps, hg⟩ := f3.2.2.2.2.2.st f4
          refine gf_X1_pieces kFX9_104 iX9_count_68 ?_
          rw [f3.1]
          refine r_iadd iX9_count_71 ?_
          refine sv_i2 (by decide) rfl iX9_count_72 ?_
          refine inc_3 (by decide) rfl iX9_count_73 ?_
          refine r_goto iX9_count_76 ?_
          first
            | exact ih (dA d - (a + 1)) (by omega) (a + 1) _ _ f N' g' rfl (by omega) (by omega) (by rw [sN, ht, (h1 h48).1]) h1 (fun k hk q => by omega) hT
            | (refine ih (dA d - (a + 1)) (by omega) (a + 1) _ _ (fun k => if k = a then P else f k) N1 g1 rfl (by omega) (by omega) ?_ (fun q => by omega) (fun k hk q => ?_) (hT.tr f1)
               · rw [sN, ht, sN_cg (f := fun k => if k = a then P else f k) (f' := f) a (fun k hk => if_neg (by omega))]; simp only [if_true]
               · by_cases e : k = a
                 · subst e; simp only [if_true]; exact ⟨s, hps⟩
                 · simp only [if_neg e]; exact h2 k (by omega) q)
        · refine ld_a0 iX9_count_51 ?_
          refine gf_X9_rules kFX9_58 iX9_count_52 ?_
          refine gf_X5_segmentCounts kFX9_122 iX9_count_55 ?_
          refine ld_i3 iX9_count_58 ?_
          refine al_27 rfl (by omega) iX9_count_59 ?_
          rw [(hR.2.2.2.1 a ha1).2.1]
          refine r_goto iX9_count_60 ?_
          refine r_iadd iX9_count_71 ?_
          refine sv_i2 (by decide) rfl iX9_count_72 ?_
          refine inc_3 (by decide) rfl iX9_count_73 ?_
          refine r_goto iX9_count_76 ?_
          first
            | exact ih (dA d - (a + 1)) (by omega) (a + 1) _ _ f N' g' rfl (by omega) (by omega) (by rw [sN, ht, (h1 h48).1]) h1 (fun k hk q => by omega) hT
            | (refine ih (dA d - (a + 1)) (by omega) (a + 1) _ _ (fun k => if k = a then P else f k) N1 g1 rfl (by omega) (by omega) ?_ (fun q => by omega) (fun k hk q => ?_) (hT.tr f1)
               · rw [sN, ht, sN_cg (f := fun k => if k = a then P else f k) (f' := f) a (fun k hk => if_neg (by omega))]; simp only [if_true]
               · by_cases e : k = a
                 · subst e; simp only [if_true]; exact ⟨s, hps⟩
                 · simp only [if_neg e]; exact h2 k (by omega) q)
  refine ld_i1 iX9_count_0 ?_
  refine r_ifne iX9_count_1 (by omega) (fun h1 => ?_) (fun h1 => ?_)
  · refine ld_a0 iX9_count_12 ?_
    refine gf_X9_hasDesk kFX9_65 iX9_count_13 ?_
    refine r_ifeq iX9_count_16 (by omega) (fun h16 => ?_) (fun h16 => ?_)
    · refine r_iconst iX9_count_28 ?_
      refine t_int rfl iX9_count_29 ?_
      exact hq0 (by omega) (by omega)
    · refine ld_i1 iX9_count_19 ?_
      refine r_iflt iX9_count_20 (by omega) (fun h20 => ?_) (fun h20 => ?_)
      · refine r_iconst iX9_count_28 ?_
        refine t_int rfl iX9_count_29 ?_
        exact hq0 (by omega) (by omega)
      · refine ld_i1 iX9_count_23 ?_
        refine r_iconst iX9_count_24 ?_
        refine r_icmple iX9_count_25 (by omega) (by omega) (fun h25 => ?_) (fun h25 => ?_)
        · refine r_iconst iX9_count_30 ?_
          refine sv_i2 (by decide) rfl iX9_count_31 ?_
          refine r_iconst iX9_count_32 ?_
          refine sv_i3 (by decide) rfl iX9_count_33 ?_
          exact loop (by omega) (by omega) (dA d) 0 _ _ (dS d) N g (by omega) (by omega) (by omega) rfl (fun _ => ⟨rfl, rfl, rfl⟩) (fun k hk => by omega) (XT.rf hX)
        · refine r_iconst iX9_count_28 ?_
          refine t_int rfl iX9_count_29 ?_
          exact hq0 (by omega) (by omega)
  · refine ld_a0 iX9_count_4 ?_
    refine gf_X9_reader kFX9_12 iX9_count_5 ?_
    refine gf_X4_length kFX9_76 iX9_count_8 ?_
    refine t_int rfl iX9_count_11 ?_
    exact hqL (by omega)
end Change7
