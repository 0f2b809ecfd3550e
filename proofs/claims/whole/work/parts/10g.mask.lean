/-! own text: what the reference answers: crossings, held accounts, changes tried -/
section MAsk5
variable {K : Kx} {N : Nm} {g : Ge} {d : Dk}
/-- what the reference has of the gaps ahead of w -/
def crT (D : Nat → Int) (w : Nat) (n at' gap was : Int) : Prop := n = ct (sgB D) w ∧ ((w = 0 ∧ was = 0 ∧ gap = -1 ∧ at' = 0) ∨ (0 < w ∧ was = sgI (D (w - 1)) ∧ ∃ b : Nat, at' = b ∧ b < w ∧ gap = ((D b).natAbs : Int) ∧ (∀ u, u < w → ((D u).natAbs : Int) ≤ ((D b).natAbs : Int)) ∧ ∀ u, u < b → ((D u).natAbs : Int) < ((D b).natAbs : Int)))
theorem m_crossings {a o w : Int} {Pq : Int → Nm → Ge → Prop} (hM : MS N d) (ra : rI a) (ro : rI o) (rw' : rI w) (hq1 : N 40 0 22 = 1 ∧ (-1 ≤ a ∧ a < dA d) ∧ (-1 ≤ o ∧ o < dA d) ∧ (0 ≤ w ∧ w ≤ 2) → ∀ r N', crA (fun u => LF d (dB d) (rwo a) u - LF d (dB d) (rwo o) u) w r → FrV N N' → Pq r N' g) (hq0 : ¬ (N 40 0 22 = 1 ∧ (-1 ≤ a ∧ a < dA d) ∧ (-1 ≤ o ∧ o < dA d) ∧ (0 ≤ w ∧ w ≤ 2)) → ∀ N', FrV N N' → Pq HID N' g) : Ck K YX10_crossings hX10_crossings [vr 40 0, vi a, vi o, vi w] N g (qL Pq) := by
  refine Ck.intro 8 (by decide) rfl ?_
  show AW _ _ _ _ _ [some (vr 40 0), some (vi a), some (vi o), some (vi w), none, none, none, none, none, none, none, none] _ _ _
  generalize hDD : (fun u => LF d (dB d) (rwo a) u - LF d (dB d) (rwo o) u) = D at hq1
  have hD : ∀ u, LF d (dB d) (rwo a) u - LF d (dB d) (rwo o) u = D u := fun u => by rw [← hDD]
  have loop : N 40 0 22 = 1 ∧ (-1 ≤ a ∧ a < dA d) ∧ (-1 ≤ o ∧ o < dA d) ∧ (0 ≤ w ∧ w ≤ 2) → ∀ (n u : Nat) (k at' gap was c : Int) (N2 : Nm), 10000 - u = n → u ≤ 10000 → c = u → FrV N N2 → crT D u k at' gap was → AW K YX10_crossings hX10_crossings (qL Pq) 54 [some (vr 40 0), some (vi a), some (vi o), some (vi w), some (vi k), some (vi at'), some (vl gap), none, some (vi was), some (vi c), none, none] [] N2 g := by
    intro h1 n
    have hW := (hM.2.2 h1.1).1
    have n1 := rwo_ok h1.2.1
    have n2 := rwo_ok h1.2.2.1
    have bD : ∀ u, u < 10000 → -300000000000000000 ≤ D u ∧ D u ≤ 300000000000000000 := fun u hu => by
      have b1 := LF_bd hW hW.2.1 n1 u hu
      have b2 := LF_bd hW hW.2.1 n2 u hu
      rw [← hD]; omega
    have sgr : ∀ v, sgI v = -1 ∨ sgI v = 0 ∨ sgI v = 1 := fun v => by unfold sgI; split; (exact Or.inl rfl); split; (exact Or.inr (Or.inr rfl)); exact Or.inr (Or.inl rfl)
    induction n using Nat.strongRecOn with
    | _ n ih =>
      intro u k at' gap was c N2 e hu hc hF hT
      subst hc
      obtain ⟨t1, t2⟩ := hT
      have ctl := ct_le (sgB D) u
      have rwas : -1 ≤ was ∧ was ≤ 1 := by
        rcases t2 with ⟨-, q, -⟩ | ⟨-, q, -⟩
        · omega
        · have := sgr (D (u - 1)); omega
      have rgap : -1 ≤ gap ∧ gap ≤ 300000000000000000 := by
        rcases t2 with ⟨-, -, q, -⟩ | ⟨-, -, b, -, q2, q3, -⟩
        · omega
        · have := bD b (by omega); omega
      have rat : 0 ≤ at' ∧ at' ≤ 10000 := by
        rcases t2 with ⟨-, -, -, q⟩ | ⟨-, -, b, q, q2, -⟩ <;> omega
      have newT : ∀ k' at'' gap' : Int, u < 10000 → k' = ct (sgB D) (u + 1) → ((gap < ((D u).natAbs : Int) ∧ at'' = u ∧ gap' = ((D u).natAbs : Int)) ∨ (((D u).natAbs : Int) ≤ gap ∧ at'' = at' ∧ gap' = gap)) → crT D (u + 1) k' at'' gap' (sgI (D u)) := by
        intro k' at'' gap' hu1 hk' hg
        refine ⟨hk', Or.inr ⟨by omega, by rw [show u + 1 - 1 = u by omega], ?_⟩⟩
        rcases hg with ⟨g1, g2, g3⟩ | ⟨g1, g2, g3⟩
        · refine ⟨u, g2, by omega, g3, fun x hx => ?_, fun x hx => ?_⟩
          · rcases t2 with ⟨q, -⟩ | ⟨-, -, b, -, q2, q3, q4, q5⟩
            · rw [show x = u by omega]; exact Int.le_refl _
            · by_cases ex : x = u
              · rw [ex]; exact Int.le_refl _
              · have := q4 x (by omega); omega
          · rcases t2 with ⟨q, -⟩ | ⟨-, -, b, -, q2, q3, q4, q5⟩
            · omega
            · have := q4 x hx; omega
        · rcases t2 with ⟨-, -, q, -⟩ | ⟨-, -, b, q1, q2, q3, q4, q5⟩
          · omega
          · refine ⟨b, by omega, by omega, by omega, fun x hx => ?_, q5⟩
            by_cases ex : x = u
            · rw [ex]; omega
            · exact q4 x (by omega)
      have tl : ∀ (z : Int) (N3 : Nm), u < 10000 → FrV N N3 → z = (if sgB D u then 1 else 0) → AW K YX10_crossings hX10_crossings (qL Pq) 101 [some (vr 40 0), some (vi a), some (vi o), some (vi w), some (vi k), some (vi at'), some (vl gap), none, some (vi was), some (vi u), some (vl (D u)), none] [vi z, vi k] N3 g := by
        intro z N3 hu1 hF3 hz
        have bu := bD u hu1
        have su := sgr (D u)
        have sa := sg_abs (D u)
        have hk' : k + z = ct (sgB D) (u + 1) := by rw [ct, hz, t1]; split <;> simp
        clear t2
        refine r_iadd iX10_crossings_101 ?_
        refine sv_i4 (by decide) rfl iX10_crossings_102 ?_
        refine ld_l10 iX10_crossings_104 ?_
        refine xX10_side kMX10_320 iX10_crossings_106 (by decide) (Nat.le_of_ble_eq_true rfl) rfl rfl ?_
        refine c_side (by omega) ?_
        refine sv_i8 (by decide) rfl iX10_crossings_109 ?_
        refine ld_l10 iX10_crossings_111 ?_
        refine ld_i8 iX10_crossings_113 ?_
        refine r_i2l (by omega) iX10_crossings_115 ?_
        refine r_lmul iX10_crossings_116 ?_
        rw [sa]
        refine ld_l6 iX10_crossings_117 ?_
        refine r_lcle iX10_crossings_119 iX10_crossings_120 (by omega) (by omega) (fun h119 => ?_) (fun h119 => ?_)
        · refine inc_9 (by decide) rfl iX10_crossings_135 ?_
          refine r_goto iX10_crossings_138 ?_
          refine fg_10 ?_
          first
            | exact ih (10000 - (u + 1)) (by omega) (u + 1) _ _ _ _ _ N3 rfl (by omega) (by omega) hF3 (newT _ _ _ hu1 hk' (Or.inr ⟨by omega, rfl, rfl⟩))
            | exact ih (10000 - (u + 1)) (by omega) (u + 1) _ _ _ _ _ N3 rfl (by omega) (by omega) hF3 (newT _ _ _ hu1 hk' (Or.inl ⟨by omega, rfl, rfl⟩))
        · refine ld_l10 iX10_crossings_123 ?_
          refine ld_i8 iX10_crossings_125 ?_
          refine r_i2l (by omega) iX10_crossings_127 ?_
          refine r_lmul iX10_crossings_128 ?_
          rw [sa]
          refine sv_l6 (by decide) rfl iX10_crossings_129 ?_
          refine ld_i9 iX10_crossings_131 ?_
          refine sv_i5 (by decide) rfl iX10_crossings_133 ?_
          refine inc_9 (by decide) rfl iX10_crossings_135 ?_
          refine r_goto iX10_crossings_138 ?_
          refine fg_10 ?_
          first
            | exact ih (10000 - (u + 1)) (by omega) (u + 1) _ _ _ _ _ N3 rfl (by omega) (by omega) hF3 (newT _ _ _ hu1 hk' (Or.inr ⟨by omega, rfl, rfl⟩))
            | exact ih (10000 - (u + 1)) (by omega) (u + 1) _ _ _ _ _ N3 rfl (by omega) (by omega) hF3 (newT _ _ _ hu1 hk' (Or.inl ⟨by omega, rfl, rfl⟩))
      refine ld_i9 iX10_crossings_54 ?_
      refine r_sipush (by decide) iX10_crossings_56 ?_
      refine r_icmpge iX10_crossings_59 (by omega) (by omega) (fun h59 => ?_) (fun h59 => ?_)
      · have e : u = 10000 := by omega
        subst e
        obtain ⟨-, q, b, q1, q2, q3, q4, q5⟩ := t2.resolve_left (fun q => by omega)
        have hamx : Amx (fun w => ((D w).natAbs : Int)) (fun _ => True) 10000 b := Or.inr ⟨b, rfl, q2, trivial, fun x hx _ => q4 x hx, fun x hx _ => q5 x hx⟩
        refine ld_i3 iX10_crossings_141 ?_
        refine r_ifne iX10_crossings_142 (by omega) (fun h142 => ?_) (fun h142 => ?_)
        · refine ld_i3 iX10_crossings_151 ?_
          refine r_iconst iX10_crossings_152 ?_
          refine r_icmpne iX10_crossings_153 (by omega) (by omega) (fun h153 => ?_) (fun h153 => ?_)
          · refine ld_i5 iX10_crossings_161 ?_
            refine r_i2l (by omega) iX10_crossings_163 ?_
            refine t_long rfl iX10_crossings_164 ?_
            first
              | exact hq1 h1 _ N2 ⟨fun _ => t1, fun y => by omega, fun y => by omega⟩ hF
              | exact hq1 h1 _ N2 ⟨fun y => by omega, fun _ => ⟨b, hamx, q3⟩, fun y => by omega⟩ hF
              | exact hq1 h1 _ N2 ⟨fun y => by omega, fun y => by omega, fun _ => by rw [q1]; exact hamx⟩ hF
          · refine ld_l6 iX10_crossings_156 ?_
            refine r_goto iX10_crossings_158 ?_
            refine t_long rfl iX10_crossings_164 ?_
            first
              | exact hq1 h1 _ N2 ⟨fun _ => t1, fun y => by omega, fun y => by omega⟩ hF
              | exact hq1 h1 _ N2 ⟨fun y => by omega, fun _ => ⟨b, hamx, q3⟩, fun y => by omega⟩ hF
              | exact hq1 h1 _ N2 ⟨fun y => by omega, fun y => by omega, fun _ => by rw [q1]; exact hamx⟩ hF
        · refine ld_i4 iX10_crossings_145 ?_
          refine r_i2l (by omega) iX10_crossings_147 ?_
          refine r_goto iX10_crossings_148 ?_
          refine t_long rfl iX10_crossings_164 ?_
          first
            | exact hq1 h1 _ N2 ⟨fun _ => t1, fun y => by omega, fun y => by omega⟩ hF
            | exact hq1 h1 _ N2 ⟨fun y => by omega, fun _ => ⟨b, hamx, q3⟩, fun y => by omega⟩ hF
            | exact hq1 h1 _ N2 ⟨fun y => by omega, fun y => by omega, fun _ => by rw [q1]; exact hamx⟩ hF
      · have bu := bD u (by omega)
        have su := sgr (D u)
        refine ld_a0 iX10_crossings_62 ?_
        refine ld_i1 iX10_crossings_63 ?_
        refine ld_i9 iX10_crossings_64 ?_
        refine xX10_valueAt kMX10_216 iX10_crossings_66 (by decide) (Nat.le_of_ble_eq_true rfl) rfl rfl ?_
        refine c_mAt (hM.v hF) (by rw [hF 40 0 22 (by omega) (by omega)]; exact h1.1) (by omega) h1.2.1 (fun N3 e1 => ?_)
        have hF3 := hF.tr (e1.v (by omega) (by omega))
        refine ld_a0 iX10_crossings_69 ?_
        refine ld_i2 iX10_crossings_70 ?_
        refine ld_i9 iX10_crossings_71 ?_
        refine xX10_valueAt kMX10_216 iX10_crossings_73 (by decide) (Nat.le_of_ble_eq_true rfl) rfl rfl ?_
        refine c_mAt (hM.v hF3) (by rw [hF3 40 0 22 (by omega) (by omega)]; exact h1.1) (by omega) h1.2.2.1 (fun N4 e2 => ?_)
        have hF4 := hF3.tr (e2.v (by omega) (by omega))
        rw [show ((u : Nat) : Int).toNat = u from rfl]
        refine r_lsub iX10_crossings_76 ?_
        rw [hD]
        refine sv_l10 (by decide) rfl iX10_crossings_77 ?_
        refine ld_i4 iX10_crossings_79 ?_
        refine ld_i9 iX10_crossings_81 ?_
        refine r_ifle iX10_crossings_83 (by omega) (fun h83 => ?_) (fun h83 => ?_)
        · refine r_iconst iX10_crossings_100 ?_
          refine tl _ N4 (by omega) hF4 ?_
          unfold sgB
          first
            | rw [if_neg (by simp only [decide_eq_true_eq]; omega)]
            | (rcases t2 with ⟨q, -⟩ | ⟨-, q, -⟩
               · exfalso; omega
               · first
                 | rw [if_pos (decide_eq_true ⟨by omega, by rw [← q]; omega⟩)]
                 | (rw [if_neg]; simp only [decide_eq_true_eq]; intro y; exact y.2 (by rw [← q]; omega)))
        · refine ld_l10 iX10_crossings_86 ?_
          refine xX10_side kMX10_320 iX10_crossings_88 (by decide) (Nat.le_of_ble_eq_true rfl) rfl rfl ?_
          refine c_side (by omega) ?_
          refine ld_i8 iX10_crossings_91 ?_
          refine r_icmpeq iX10_crossings_93 (by omega) (by omega) (fun h93 => ?_) (fun h93 => ?_)
          · refine r_iconst iX10_crossings_100 ?_
            refine tl _ N4 (by omega) hF4 ?_
            unfold sgB
            first
              | rw [if_neg (by simp only [decide_eq_true_eq]; omega)]
              | (rcases t2 with ⟨q, -⟩ | ⟨-, q, -⟩
                 · exfalso; omega
                 · first
                   | rw [if_pos (decide_eq_true ⟨by omega, by rw [← q]; omega⟩)]
                   | (rw [if_neg]; simp only [decide_eq_true_eq]; intro y; exact y.2 (by rw [← q]; omega)))
          · refine r_iconst iX10_crossings_96 ?_
            refine r_goto iX10_crossings_97 ?_
            refine tl _ N4 (by omega) hF4 ?_
            unfold sgB
            first
              | rw [if_neg (by simp only [decide_eq_true_eq]; omega)]
              | (rcases t2 with ⟨q, -⟩ | ⟨-, q, -⟩
                 · exfalso; omega
                 · first
                   | rw [if_pos (decide_eq_true ⟨by omega, by rw [← q]; omega⟩)]
                   | (rw [if_neg]; simp only [decide_eq_true_eq]; intro y; exact y.2 (by rw [← q]; omega)))
  refine ld_a0 iX10_crossings_0 ?_
  refine r_iconst iX10_crossings_1 ?_
  refine pf_X10_thrown kFX10_72 iX10_crossings_2 ?_
  obtain ⟨N1, hN1, f0⟩ : ∃ N1, N1 = upN N 40 0 0 0 ∧ FrV N N1 := ⟨_, rfl, thr_v N⟩
  rw [← hN1]
  clear hN1
  have hM1 := hM.v f0
  have h22 : N1 40 0 22 = N 40 0 22 := f0 40 0 22 (by omega) (by omega)
  have h01 := hM1.1
  refine ld_a0 iX10_crossings_5 ?_
  refine ld_i1 iX10_crossings_6 ?_
  refine xX10_isLine kMX10_248 iX10_crossings_7 (by decide) (Nat.le_of_ble_eq_true rfl) rfl rfl ?_
  refine c_mIsLine hM1 ra ?_
  refine r_ifeq iX10_crossings_10 (by exact tf_r _) (fun h10 => ?_) (fun h10 => ?_)
  · have h10 := tf_n h10
    refine r_ldc2 (z := -9000000000000000000) kKX10_254 (by decide) iX10_crossings_33 ?_
    refine t_long rfl iX10_crossings_36 ?_
    exact hq0 (by omega) _ f0
  · have h10 := tf_y h10
    refine ld_a0 iX10_crossings_13 ?_
    refine ld_i2 iX10_crossings_14 ?_
    refine xX10_isLine kMX10_248 iX10_crossings_15 (by decide) (Nat.le_of_ble_eq_true rfl) rfl rfl ?_
    refine c_mIsLine hM1 ro ?_
    refine r_ifeq iX10_crossings_18 (by exact tf_r _) (fun h18 => ?_) (fun h18 => ?_)
    · have h18 := tf_n h18
      refine r_ldc2 (z := -9000000000000000000) kKX10_254 (by decide) iX10_crossings_33 ?_
      refine t_long rfl iX10_crossings_36 ?_
      exact hq0 (by omega) _ f0
    · have h18 := tf_y h18
      refine ld_i3 iX10_crossings_21 ?_
      refine r_i2l (by omega) iX10_crossings_22 ?_
      refine r_lconst (v := 0) (by decide) iX10_crossings_23 ?_
      refine r_ldc2 (z := 2) kKX10_283 (by decide) iX10_crossings_24 ?_
      refine xX10_in kMX10_82 iX10_crossings_27 (by decide) (Nat.le_of_ble_eq_true rfl) rfl rfl ?_
      refine c_in (by omega) (by omega) (by omega) ?_
      refine r_ifne iX10_crossings_30 (by exact tf_r _) (fun h30 => ?_) (fun h30 => ?_)
      · have h30 := tf_y h30
        refine r_iconst iX10_crossings_37 ?_
        refine sv_i4 (by decide) rfl iX10_crossings_38 ?_
        refine r_iconst iX10_crossings_40 ?_
        refine sv_i5 (by decide) rfl iX10_crossings_41 ?_
        refine r_ldc2 (z := -1) kKX10_171 (by decide) iX10_crossings_43 ?_
        refine sv_l6 (by decide) rfl iX10_crossings_46 ?_
        refine r_iconst iX10_crossings_48 ?_
        refine sv_i8 (by decide) rfl iX10_crossings_49 ?_
        refine r_iconst iX10_crossings_51 ?_
        refine sv_i9 (by decide) rfl iX10_crossings_52 ?_
        exact loop ⟨by omega, h10.2, h18.2, h30⟩ 10000 0 _ _ _ _ _ _ (by omega) (by omega) (by omega) f0 ⟨rfl, Or.inl ⟨rfl, rfl, rfl, rfl⟩⟩
      · have h30 := tf_n h30
        refine r_ldc2 (z := -9000000000000000000) kKX10_254 (by decide) iX10_crossings_33 ?_
        refine t_long rfl iX10_crossings_36 ?_
        exact hq0 (by omega) _ f0
theorem c_paidWith {a w : Int} {v : Int} {Pq : Int → Nm → Ge → Prop} (hM : MS N d) (h1 : N 40 0 22 = 1) (ha : 0 ≤ a ∧ a < dA d) (hw : 0 ≤ w ∧ w ≤ 9999) (hv : 0 ≤ v ∧ v ≤ VB (dD d a.toNat)) (hq : ∀ N', FrV N N' → Pq (paid d (dB d) a v w) N' g) : Ck K YX10_paidWith hX10_paidWith [vr 40 0, vi a, vl v, vi w] N g (qL Pq) := by
  obtain ⟨a1, a2, a3⟩ := hM.2.2 h1
  have hA := a1.1
  refine Ck.intro 2 (by decide) rfl ?_
  show AW _ _ _ _ _ [some (vr 40 0), some (vi a), some (vl v), none, some (vi w), none, none] _ _ _
  refine ld_a0 iX10_paidWith_0 ?_
  refine ld_i1 iX10_paidWith_1 ?_
  refine pf_X10_held kFX10_59 iX10_paidWith_2 ?_
  refine ld_a0 iX10_paidWith_5 ?_
  refine ld_l2 iX10_paidWith_6 ?_
  refine pf_X10_heldAt kFX10_202 iX10_paidWith_7 ?_
  refine ld_a0 iX10_paidWith_10 ?_
  refine ld_i4 iX10_paidWith_11 ?_
  refine xX10_paidAt kMX10_212 iX10_paidWith_13 (by decide) (Nat.le_of_ble_eq_true rfl) rfl rfl ?_
  refine c_paidAt (N := upN (upN N 40 0 27 a) 40 0 28 v) (b := dB d) (hd := a) (hv := v) (a2.of (by rw [upN_j (by decide), upN_j (by decide)]) (fun k j q1 q2 => by rw [upN_k (by omega), upN_k (by omega)])) a1 ⟨by rw [upN_j (by decide), upN_j (by decide)]; exact a3, by rw [upN_j (by decide), upN_eq], by rw [upN_eq]⟩ a1.2.1 hw (by omega) (fun k hk ek => by rw [show a.toNat = k by omega] at hv; exact hv) (fun N2 e1 _ => ?_)
  refine sv_l5 (by decide) rfl iX10_paidWith_16 ?_
  refine ld_a0 iX10_paidWith_18 ?_
  refine r_iconst iX10_paidWith_19 ?_
  refine pf_X10_held kFX10_59 iX10_paidWith_20 ?_
  refine ld_l5 iX10_paidWith_23 ?_
  refine t_long rfl iX10_paidWith_25 ?_
  refine hq _ (fun k i j z1 z2 => ?_)
  by_cases c : k = 40 ∧ i = 0 ∧ j = 27
  · obtain ⟨c1, c2, c3⟩ := c; subst c1; subst c2; subst c3; rw [upN_eq]; exact hM.2.1.symm
  · rw [show upN N2 40 0 27 (-1) k i j = N2 k i j from if_neg c, e1 k i j (by omega), show upN (upN N 40 0 27 a) 40 0 28 v k i j = upN N 40 0 27 a k i j from if_neg (fun y => by omega)]; exact if_neg c
theorem m_through {a w : Int} {Pq : Int → Nm → Ge → Prop} (hM : MS N d) (ra : rI a) (rw' : rI w) (hq1 : N 40 0 22 = 1 ∧ (0 ≤ a ∧ a < dA d) ∧ (0 ≤ w ∧ w < 9999) → ∀ N', FrV N N' → Pq (paid d (dB d) (-1) 0 (w + 1) - paid d (dB d) a (VA d (dB d) (-1) 0 w a.toNat) (w + 1)) N' g) (hq0 : ¬ (N 40 0 22 = 1 ∧ (0 ≤ a ∧ a < dA d) ∧ (0 ≤ w ∧ w < 9999)) → ∀ N', FrV N N' → Pq HID N' g) : Ck K YX10_through hX10_through [vr 40 0, vi a, vi w] N g (qL Pq) := by
  refine Ck.intro 2 (by decide) rfl ?_
  show AW _ _ _ _ _ [some (vr 40 0), some (vi a), some (vi w), none, none] _ _ _
  refine ld_a0 iX10_through_0 ?_
  refine r_iconst iX10_through_1 ?_
  refine pf_X10_thrown kFX10_72 iX10_through_2 ?_
  obtain ⟨N1, hN1, f0⟩ : ∃ N1, N1 = upN N 40 0 0 0 ∧ FrV N N1 := ⟨_, rfl, thr_v N⟩
  rw [← hN1]
  clear hN1
  have hM1 := hM.v f0
  have h22 : N1 40 0 22 = N 40 0 22 := f0 40 0 22 (by omega) (by omega)
  have h01 := hM1.1
  refine ld_a0 iX10_through_5 ?_
  refine ld_i1 iX10_through_6 ?_
  refine xX10_isAccount kMX10_175 iX10_through_7 (by decide) (Nat.le_of_ble_eq_true rfl) rfl rfl ?_
  refine c_mIsAccount hM1 ra ?_
  refine r_ifeq iX10_through_10 (by exact tf_r _) (fun h10 => ?_) (fun h10 => ?_)
  · have h10 := tf_n h10
    refine r_ldc2 (z := -9000000000000000000) kKX10_254 (by decide) iX10_through_28 ?_
    refine t_long rfl iX10_through_31 ?_
    exact hq0 (by omega) _ f0
  · have h10 := tf_y h10
    refine ld_a0 iX10_through_13 ?_
    refine ld_i2 iX10_through_14 ?_
    refine xX10_isWage kMX10_251 iX10_through_15 (by decide) (Nat.le_of_ble_eq_true rfl) rfl rfl ?_
    refine c_mIsWage hM1 rw' ?_
    refine r_ifeq iX10_through_18 (by exact tf_r _) (fun h18 => ?_) (fun h18 => ?_)
    · have h18 := tf_n h18
      refine r_ldc2 (z := -9000000000000000000) kKX10_254 (by decide) iX10_through_28 ?_
      refine t_long rfl iX10_through_31 ?_
      exact hq0 (by omega) _ f0
    · have h18 := tf_y h18
      refine ld_i2 iX10_through_21 ?_
      refine r_sipush (by decide) iX10_through_22 ?_
      refine r_icmpne iX10_through_25 (by omega) (by omega) (fun h25 => ?_) (fun h25 => ?_)
      · have hW := (hM1.2.2 h10.1).1
        have hA := hW.1
        have vb := val_bd hW hW.2.1 (w := w) (by omega) (hd := -1) (hv := 0) (fun a _ q => by omega) (dA d) (Nat.le_refl _) a.toNat (by omega)
        refine ld_a0 iX10_through_32 ?_
        refine ld_i1 iX10_through_33 ?_
        refine ld_i2 iX10_through_34 ?_
        refine xX10_valueAt kMX10_216 iX10_through_35 (by decide) (Nat.le_of_ble_eq_true rfl) rfl rfl ?_
        refine c_mAt hM1 h10.1 (by omega) (by omega) (fun N2 e1 => ?_)
        have hF2 : FrV N1 N2 := e1.v (by omega) (by omega)
        have g2 : N2 40 0 22 = 1 := by rw [hF2 40 0 22 (by omega) (by omega)]; exact h10.1
        rw [show LF d (dB d) (rwo a) w.toNat = VA d (dB d) (-1) 0 w a.toNat by rw [show rwo a = a.toNat from if_neg (by omega)]; unfold LF; rw [if_neg (by omega), show ((w.toNat : Nat) : Int) = w by omega]]
        refine sv_l3 (by decide) rfl iX10_through_38 ?_
        refine ld_a0 iX10_through_39 ?_
        refine ld_i2 iX10_through_40 ?_
        refine r_iconst iX10_through_41 ?_
        refine r_iadd iX10_through_42 ?_
        refine xX10_paidAt kMX10_212 iX10_through_43 (by decide) (Nat.le_of_ble_eq_true rfl) rfl rfl ?_
        refine c_mPaid (hM1.v hF2) g2 (by omega) (fun N3 e2 => ?_)
        have hF3 := hF2.tr (e2.v (by omega) (by omega))
        refine ld_a0 iX10_through_46 ?_
        refine ld_i1 iX10_through_47 ?_
        refine ld_l3 iX10_through_48 ?_
        refine ld_i2 iX10_through_49 ?_
        refine r_iconst iX10_through_50 ?_
        refine r_iadd iX10_through_51 ?_
        refine xX10_paidWith kMX10_316 iX10_through_52 (by decide) (Nat.le_of_ble_eq_true rfl) rfl rfl ?_
        refine c_paidWith (hM1.v hF3) (by rw [hF3 40 0 22 (by omega) (by omega)]; exact h10.1) h10.2 (by omega) vb.1 (fun N4 e3 => ?_)
        refine r_lsub iX10_through_55 ?_
        refine t_long rfl iX10_through_56 ?_
        exact hq1 ⟨by omega, h10.2, by omega⟩ _ (f0.tr (hF3.tr e3))
      · refine r_ldc2 (z := -9000000000000000000) kKX10_254 (by decide) iX10_through_28 ?_
        refine t_long rfl iX10_through_31 ?_
        exact hq0 (by omega) _ f0
theorem m_without {a w : Int} {Pq : Int → Nm → Ge → Prop} (hM : MS N d) (ra : rI a) (rw' : rI w) (hq1 : N 40 0 22 = 1 ∧ (0 ≤ a ∧ a < dA d) ∧ (0 ≤ w ∧ w ≤ 9999) → ∀ N', FrV N N' → Pq (paid d (dB d) a 0 w) N' g) (hq0 : ¬ (N 40 0 22 = 1 ∧ (0 ≤ a ∧ a < dA d) ∧ (0 ≤ w ∧ w ≤ 9999)) → ∀ N', FrV N N' → Pq HID N' g) : Ck K YX10_without hX10_without [vr 40 0, vi a, vi w] N g (qL Pq) := by
  refine Ck.intro 0 (by decide) rfl ?_
  show AW _ _ _ _ _ [some (vr 40 0), some (vi a), some (vi w)] _ _ _
  refine ld_a0 iX10_without_0 ?_
  refine r_iconst iX10_without_1 ?_
  refine pf_X10_thrown kFX10_72 iX10_without_2 ?_
  obtain ⟨N1, hN1, f0⟩ : ∃ N1, N1 = upN N 40 0 0 0 ∧ FrV N N1 := ⟨_, rfl, thr_v N⟩
  rw [← hN1]
  clear hN1
  have hM1 := hM.v f0
  have h22 : N1 40 0 22 = N 40 0 22 := f0 40 0 22 (by omega) (by omega)
  have h01 := hM1.1
  refine ld_a0 iX10_without_5 ?_
  refine ld_i1 iX10_without_6 ?_
  refine xX10_isAccount kMX10_175 iX10_without_7 (by decide) (Nat.le_of_ble_eq_true rfl) rfl rfl ?_
  refine c_mIsAccount hM1 ra ?_
  refine r_ifeq iX10_without_10 (by exact tf_r _) (fun h10 => ?_) (fun h10 => ?_)
  · have h10 := tf_n h10
    refine r_ldc2 (z := -9000000000000000000) kKX10_254 (by decide) iX10_without_21 ?_
    refine t_long rfl iX10_without_24 ?_
    exact hq0 (by omega) _ f0
  · have h10 := tf_y h10
    refine ld_a0 iX10_without_13 ?_
    refine ld_i2 iX10_without_14 ?_
    refine xX10_isWage kMX10_251 iX10_without_15 (by decide) (Nat.le_of_ble_eq_true rfl) rfl rfl ?_
    refine c_mIsWage hM1 rw' ?_
    refine r_ifne iX10_without_18 (by exact tf_r _) (fun h18 => ?_) (fun h18 => ?_)
    · have h18 := tf_y h18
      refine ld_a0 iX10_without_25 ?_
      refine ld_i1 iX10_without_26 ?_
      refine r_lconst (v := 0) (by decide) iX10_without_27 ?_
      refine ld_i2 iX10_without_28 ?_
      refine xX10_paidWith kMX10_316 iX10_without_29 (by decide) (Nat.le_of_ble_eq_true rfl) rfl rfl ?_
      refine c_paidWith hM1 h10.1 h10.2 h18.2 ⟨by omega, (VB_le _).1⟩ (fun N4 e3 => ?_)
      refine t_long rfl iX10_without_32 ?_
      exact hq1 ⟨by omega, h10.2, h18.2⟩ _ (f0.tr e3)
    · have h18 := tf_n h18
      refine r_ldc2 (z := -9000000000000000000) kKX10_254 (by decide) iX10_without_21 ?_
      refine t_long rfl iX10_without_24 ?_
      exact hq0 (by omega) _ f0
end MAsk5
