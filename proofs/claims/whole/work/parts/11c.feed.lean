/-! own text: the reference's tape is fed -/
def Mt (N : Nm) (T : Nat → Int) (L : Nat) (B : Nat → Int) (n : Nat) : Prop := N 40 0 2 = (L : Int) + ct (nzB B) n ∧ ∀ j, N 41 0 j = apT T L B n j
/-- nothing of the reference has changed but its tape, and what it lays anew -/
def FrF (N N' : Nm) : Prop := ∀ k i j, k ≠ 41 → ¬ (k = 40 ∧ (j = 0 ∨ j = 2)) → N' k i j = N k i j
section Feed7
variable {K : Kx} {N : Nm} {g : Ge}
theorem m_feed {a b c d e : Int} {L : Nat} {Pq : Int → Nm → Ge → Prop} (hL : N 40 0 2 = L) (hL4 : L ≤ 400) (hq1 : L + ct (nzB (by5 a b c d e)) 20 ≤ 400 → ∀ N', FrF N N' → Mt N' (fun j => N 41 0 j) L (by5 a b c d e) 20 → Pq ((L : Int) + ct (nzB (by5 a b c d e)) 20) N' g) (hq0 : ¬ L + ct (nzB (by5 a b c d e)) 20 ≤ 400 → ∀ N', FrV N N' → Pq (-1) N' g) : Ck K YX10_feed hX10_feed [vr 40 0, vi a, vi b, vi c, vi d, vi e] N g (qI Pq) := by
  have br : ∀ k, 0 ≤ by5 a b c d e k ∧ by5 a b c d e k ≤ 255 := fun k => byt_r _ _
  have cl := ct_le (nzB (by5 a b c d e)) 20
  refine Ck.intro 3 (by decide) rfl ?_
  show AW _ _ _ _ _ [some (vr 40 0), some (vi a), some (vi b), some (vi c), some (vi d), some (vi e), none, none, none] _ _ _
  have second : L + ct (nzB (by5 a b c d e)) 20 ≤ 400 → ∀ (n k : Nat) (t x : Int) (N2 : Nm), 20 - k = n → k ≤ 20 → x = k → FrF N N2 → Mt N2 (fun j => N 41 0 j) L (by5 a b c d e) k → AW K YX10_feed hX10_feed (qI Pq) 67 [some (vr 40 0), some (vi a), some (vi b), some (vi c), some (vi d), some (vi e), some (vi t), some (vi x), none] [] N2 g := by
    intro hfit n
    induction n using Nat.strongRecOn with
    | _ n ih =>
      intro k t x N2 en hk hx hF hT
      subst hx
      obtain ⟨t1, t2⟩ := hT
      have bb := br k
      refine ld_i7 iX10_feed_67 ?_
      refine r_bipush (by decide) iX10_feed_69 ?_
      refine r_icmpge iX10_feed_71 (by omega) (by omega) (fun h71 => ?_) (fun h71 => ?_)
      · have e20 : k = 20 := by omega
        subst e20
        refine ld_a0 iX10_feed_120 ?_
        refine gf_X10_taped kFX10_79 iX10_feed_121 ?_
        rw [t1]
        refine t_int rfl iX10_feed_124 ?_
        exact hq1 hfit N2 hF ⟨t1, t2⟩
      · have mono := ct_mono (nzB (by5 a b c d e)) (show k ≤ 20 by omega)
        have mono1 := ct_mono (nzB (by5 a b c d e)) (show k + 1 ≤ 20 by omega)
        refine ld_i1 iX10_feed_74 ?_
        refine ld_i2 iX10_feed_75 ?_
        refine ld_i3 iX10_feed_76 ?_
        refine ld_i4 iX10_feed_77 ?_
        refine ld_i5 iX10_feed_79 ?_
        refine ld_i7 iX10_feed_81 ?_
        refine xX10_byteOf kMX10_75 iX10_feed_83 (by decide) (Nat.le_of_ble_eq_true rfl) rfl rfl ?_
        refine c_byteOf (by omega) ?_
        refine sv_i8 (by decide) rfl iX10_feed_86 ?_
        refine ld_i8 iX10_feed_88 ?_
        refine r_ifeq iX10_feed_90 (by omega) (fun h90 => ?_) (fun h90 => ?_)
        · have hnz : nzB (by5 a b c d e) k = false := decide_eq_false (fun z => z h90)
          refine inc_7 (by decide) rfl iX10_feed_114 ?_
          refine r_goto iX10_feed_117 ?_
          refine fg_8 ?_
          first
            | (refine ih (20 - (k + 1)) (by omega) (k + 1) _ _ N2 rfl (by omega) (by omega) hF ⟨?_, fun j => ?_⟩
               · rw [t1, ct, hnz]; simp
               · rw [t2, apT]; simp only; rw [if_neg (fun z => z.1 h90)])
            | (refine ih (20 - (k + 1)) (by omega) (k + 1) _ _ _ rfl (by omega) (by omega) (fun k' i j z1 z2 => ?_) ⟨?_, fun j => ?_⟩
               · rw [show upN (upN N2 41 0 (L + ct (nzB (by5 a b c d e)) k) (by5 a b c d e k)) 40 0 2 ((L : Int) + ct (nzB (by5 a b c d e)) k + 1) k' i j = upN N2 41 0 (L + ct (nzB (by5 a b c d e)) k) (by5 a b c d e k) k' i j from if_neg (fun y => by omega), upN_k z1]; exact hF k' i j z1 z2
               · rw [upN_eq, hc1]; omega
               · rw [upN_k (by decide), apT]
                 simp only
                 by_cases cc : j = L + ct (nzB (by5 a b c d e)) k
                 · rw [if_pos ⟨h90, cc⟩, cc, upN_eq]
                 · rw [if_neg (fun z => cc z.2), upN_j cc]; exact t2 j)
        · have hnz : nzB (by5 a b c d e) k = true := decide_eq_true h90
          have hc1 : ct (nzB (by5 a b c d e)) (k + 1) = ct (nzB (by5 a b c d e)) k + 1 := by rw [ct, hnz]; rfl
          refine ld_a0 iX10_feed_93 ?_
          refine gf_X10_tape kFX10_9 iX10_feed_94 ?_
          refine ld_a0 iX10_feed_97 ?_
          refine gf_X10_taped kFX10_79 iX10_feed_98 ?_
          rw [t1]
          refine ld_i8 iX10_feed_101 ?_
          refine as_41 (n := (L + ct (nzB (by5 a b c d e)) k)) (by omega) (by omega) iX10_feed_103 ?_
          refine ld_a0 iX10_feed_104 ?_
          refine r_dup rfl iX10_feed_105 ?_
          refine gf_X10_taped kFX10_79 iX10_feed_106 ?_
          rw [upN_k (by decide), t1]
          refine r_iconst iX10_feed_109 ?_
          refine r_iadd iX10_feed_110 ?_
          refine pf_X10_taped kFX10_79 iX10_feed_111 ?_
          refine inc_7 (by decide) rfl iX10_feed_114 ?_
          refine r_goto iX10_feed_117 ?_
          refine fg_8 ?_
          first
            | (refine ih (20 - (k + 1)) (by omega) (k + 1) _ _ N2 rfl (by omega) (by omega) hF ⟨?_, fun j => ?_⟩
               · rw [t1, ct, hnz]; simp
               · rw [t2, apT]; simp only; rw [if_neg (fun z => z.1 h90)])
            | (refine ih (20 - (k + 1)) (by omega) (k + 1) _ _ _ rfl (by omega) (by omega) (fun k' i j z1 z2 => ?_) ⟨?_, fun j => ?_⟩
               · rw [show upN (upN N2 41 0 (L + ct (nzB (by5 a b c d e)) k) (by5 a b c d e k)) 40 0 2 ((L : Int) + ct (nzB (by5 a b c d e)) k + 1) k' i j = upN N2 41 0 (L + ct (nzB (by5 a b c d e)) k) (by5 a b c d e k) k' i j from if_neg (fun y => by omega), upN_k z1]; exact hF k' i j z1 z2
               · rw [upN_eq, hc1]; omega
               · rw [upN_k (by decide), apT]
                 simp only
                 by_cases cc : j = L + ct (nzB (by5 a b c d e)) k
                 · rw [if_pos ⟨h90, cc⟩, cc, upN_eq]
                 · rw [if_neg (fun z => cc z.2), upN_j cc]; exact t2 j)
  have first : ∀ (n k : Nat) (t x : Int) (N1 : Nm), 20 - k = n → k ≤ 20 → x = k → FrV N N1 → FrF N N1 → N1 40 0 2 = L → (∀ j, N1 41 0 j = N 41 0 j) → t = ct (nzB (by5 a b c d e)) k → AW K YX10_feed hX10_feed (qI Pq) 11 [some (vr 40 0), some (vi a), some (vi b), some (vi c), some (vi d), some (vi e), some (vi t), some (vi x), none] [] N1 g := by
    intro n
    induction n using Nat.strongRecOn with
    | _ n ih =>
      intro k t x N1 en hk hx hV hF h2 h41 ht
      subst hx
      have bb := br k
      refine ld_i7 iX10_feed_11 ?_
      refine r_bipush (by decide) iX10_feed_13 ?_
      refine r_icmpge iX10_feed_15 (by omega) (by omega) (fun h15 => ?_) (fun h15 => ?_)
      · have e20 : k = 20 := by omega
        subst e20
        subst ht
        refine ld_a0 iX10_feed_49 ?_
        refine gf_X10_taped kFX10_79 iX10_feed_50 ?_
        rw [h2]
        refine ld_i6 iX10_feed_53 ?_
        refine r_iadd iX10_feed_55 ?_
        refine r_sipush (by decide) iX10_feed_56 ?_
        refine r_icmple iX10_feed_59 (by omega) (by omega) (fun h59 => ?_) (fun h59 => ?_)
        · refine r_iconst iX10_feed_64 ?_
          refine sv_i7 (by decide) rfl iX10_feed_65 ?_
          exact second (by omega) 20 0 _ _ N1 (by omega) (by omega) (by omega) hF ⟨by rw [h2]; simp [ct], fun j => h41 j⟩
        · refine r_iconst iX10_feed_62 ?_
          refine t_int rfl iX10_feed_63 ?_
          exact hq0 (by omega) N1 hV
      · refine ld_i6 iX10_feed_18 ?_
        refine ld_i1 iX10_feed_20 ?_
        refine ld_i2 iX10_feed_21 ?_
        refine ld_i3 iX10_feed_22 ?_
        refine ld_i4 iX10_feed_23 ?_
        refine ld_i5 iX10_feed_25 ?_
        refine ld_i7 iX10_feed_27 ?_
        refine xX10_byteOf kMX10_75 iX10_feed_29 (by decide) (Nat.le_of_ble_eq_true rfl) rfl rfl ?_
        refine c_byteOf (by omega) ?_
        refine r_ifeq iX10_feed_32 (by omega) (fun h32 => ?_) (fun h32 => ?_)
        · refine r_iconst iX10_feed_39 ?_
          refine r_iadd iX10_feed_40 ?_
          refine sv_i6 (by decide) rfl iX10_feed_41 ?_
          refine inc_7 (by decide) rfl iX10_feed_43 ?_
          refine r_goto iX10_feed_46 ?_
          first
            | exact ih (20 - (k + 1)) (by omega) (k + 1) _ _ N1 rfl (by omega) (by omega) hV hF h2 h41 (by rw [ct, show nzB (by5 a b c d e) k = false from decide_eq_false (fun z => z h32), ht]; simp)
            | exact ih (20 - (k + 1)) (by omega) (k + 1) _ _ N1 rfl (by omega) (by omega) hV hF h2 h41 (by rw [ct, show nzB (by5 a b c d e) k = true from decide_eq_true h32, ht]; simp)
        · refine r_iconst iX10_feed_35 ?_
          refine r_goto iX10_feed_36 ?_
          refine r_iadd iX10_feed_40 ?_
          refine sv_i6 (by decide) rfl iX10_feed_41 ?_
          refine inc_7 (by decide) rfl iX10_feed_43 ?_
          refine r_goto iX10_feed_46 ?_
          first
            | exact ih (20 - (k + 1)) (by omega) (k + 1) _ _ N1 rfl (by omega) (by omega) hV hF h2 h41 (by rw [ct, show nzB (by5 a b c d e) k = false from decide_eq_false (fun z => z h32), ht]; simp)
            | exact ih (20 - (k + 1)) (by omega) (k + 1) _ _ N1 rfl (by omega) (by omega) hV hF h2 h41 (by rw [ct, show nzB (by5 a b c d e) k = true from decide_eq_true h32, ht]; simp)
  refine ld_a0 iX10_feed_0 ?_
  refine r_iconst iX10_feed_1 ?_
  refine pf_X10_thrown kFX10_72 iX10_feed_2 ?_
  refine r_iconst iX10_feed_5 ?_
  refine sv_i6 (by decide) rfl iX10_feed_6 ?_
  refine r_iconst iX10_feed_8 ?_
  refine sv_i7 (by decide) rfl iX10_feed_9 ?_
  refine first 20 0 _ _ _ (by omega) (by omega) (by omega) (thr_v N) (fun k i j z1 z2 => if_neg (fun y => by omega)) (by rw [upN_j (by decide)]; exact hL) (fun j => upN_k (by decide)) rfl
end Feed7
