/-! own text: what changes a desk -/
def updB (f : Nat → Nat → Int) (a q : Nat) (v : Int) : Nat → Nat → Int := fun a' q' => if a' = a ∧ q' = q then v else f a' q'
/-- segment q of account a with another FROM (0), AT (1), SLOPE (2) -/
def bnd (d : Dk) (a q what : Nat) (v : Int) : Dk := (d.1, d.2.1, d.2.2.1, d.2.2.2.1, d.2.2.2.2.1, d.2.2.2.2.2.1, (if what = 0 then updB (dF d) a q v else dF d), (if what = 1 then updB (dE d) a q v else dE d), (if what = 2 then updB (dL d) a q v else dL d), d.2.2.2.2.2.2.2.2.2)
def wben (d : Dk) (b : Int) : Dk := (d.1, b, d.2.2)
/-- v may stand there -/
def OkB (d : Dk) (a q what : Nat) (v : Int) : Prop := (what = 0 → q ≠ 0 ∧ dF d a (q - 1) < v ∧ v ≤ 9999 ∧ (q + 1 < dS d a → v < dF d a (q + 1))) ∧ (what = 1 → 0 ≤ v ∧ v ≤ 9999) ∧ (what = 2 → 0 ≤ v ∧ v ≤ 1999)
theorem bnd_F (d : Dk) (a q what : Nat) (v : Int) (a' q' : Nat) : dF (bnd d a q what v) a' q' = if what = 0 ∧ a' = a ∧ q' = q then v else dF d a' q' := by
  show (if what = 0 then updB (dF d) a q v else dF d) a' q' = _
  by_cases e : what = 0
  · rw [if_pos e]; unfold updB; simp [e]
  · rw [if_neg e, if_neg (fun z => e z.1)]
theorem bnd_E (d : Dk) (a q what : Nat) (v : Int) (a' q' : Nat) : dE (bnd d a q what v) a' q' = if what = 1 ∧ a' = a ∧ q' = q then v else dE d a' q' := by
  show (if what = 1 then updB (dE d) a q v else dE d) a' q' = _
  by_cases e : what = 1
  · rw [if_pos e]; unfold updB; simp [e]
  · rw [if_neg e, if_neg (fun z => e z.1)]
theorem bnd_L (d : Dk) (a q what : Nat) (v : Int) (a' q' : Nat) : dL (bnd d a q what v) a' q' = if what = 2 ∧ a' = a ∧ q' = q then v else dL d a' q' := by
  show (if what = 2 then updB (dL d) a q v else dL d) a' q' = _
  by_cases e : what = 2
  · rw [if_pos e]; unfold updB; simp [e]
  · rw [if_neg e, if_neg (fun z => e z.1)]
theorem bnd_W {d : Dk} (hW : WD d) {a q what : Nat} {v : Int} (ha : a < dA d) (hq : q < dS d a) (ho : OkB d a q what v) : WD (bnd d a q what v) := by
  obtain ⟨h1, h2, h3, h4⟩ := hW
  refine ⟨h1, h2, fun k hk => ⟨?_, (h3 k hk).2.1, (h3 k hk).2.2⟩, h4⟩
  obtain ⟨s1, s2, s3, s4, s5⟩ := (h3 k hk).1
  have o0 := ho.1
  have o1 := ho.2.1
  have o2 := ho.2.2
  refine ⟨s1, s2, ?_, fun p hp => ?_, fun p hp => ⟨?_, ?_, ?_⟩⟩
  · rw [bnd_F]
    split
    · rename_i z; have := o0 z.1; omega
    · exact s3
  · have hp : p + 1 < dS d k := hp
    have e := s4 p hp
    rw [bnd_F, bnd_F]
    by_cases c1 : what = 0 ∧ k = a ∧ p = q
    · obtain ⟨e1, e2, e3⟩ := c1
      subst e2
      subst e3
      have := o0 e1
      rw [if_pos ⟨e1, rfl, rfl⟩, if_neg (by omega)]
      exact this.2.2.2 hp
    · rw [if_neg c1]
      by_cases c2 : what = 0 ∧ k = a ∧ p + 1 = q
      · rw [if_pos c2]
        obtain ⟨e1, e2, e3⟩ := c2
        subst e2
        have := o0 e1
        rw [show q - 1 = p by omega] at this
        exact this.2.1
      · rw [if_neg c2]; exact e
  · have y := (s5 p hp).1
    rw [bnd_F]
    split
    · rename_i z
      obtain ⟨e1, e2, e3⟩ := z
      subst e2
      have z1 := o0 e1
      have z2 := (s5 (q - 1) (by have hp : p < dS d k := hp; omega)).1
      omega
    · exact y
  · have y := (s5 p hp).2.1
    rw [bnd_E]
    split
    · rename_i z; have := o1 z.1; omega
    · exact y
  · have y := (s5 p hp).2.2
    rw [bnd_L]
    split
    · rename_i z; exact o2 z.1
    · exact y
theorem bas_ne (d : Dk) {a q what : Nat} {v : Int} {k : Nat} (hk : k ≠ a) : ∀ p, bas (bnd d a q what v) k p = bas d k p := by
  have e1 : ∀ p, dE (bnd d a q what v) k p = dE d k p := fun p => by rw [bnd_E]; exact if_neg (fun z => hk z.2.1)
  have e2 : ∀ p, dF (bnd d a q what v) k p = dF d k p := fun p => by rw [bnd_F]; exact if_neg (fun z => hk z.2.1)
  have e3 : ∀ p, dL (bnd d a q what v) k p = dL d k p := fun p => by rw [bnd_L]; exact if_neg (fun z => hk z.2.1)
  intro p
  induction p with
  | zero => rw [bas, bas, e1]
  | succ p ih => rw [bas, bas, ih, e1, e2, e2, e3]
/-- the Rules r behind a bend and a settling -/
theorem RuI.bnd {N N' : Nm} {r : Nat} {d : Dk} {a q what : Nat} {v : Int} (h : RuI N r d) (hA : dA d ≤ 6) (ha : a < dA d) (hw : what < 3) (h1 : ∀ k i j, ¬ (k = 35 ∧ i = 6 * r + a) → N' k i j = upN N (29 + 2 * what) (6 * r + a) q v k i j) (h2 : ∀ p, p < dS d a → N' 35 (6 * r + a) p = bas (bnd d a q what v) a p) : RuI N' r (bnd d a q what v) := by
  obtain ⟨r1, r2, r3, r4, r5⟩ := h
  have nk : ∀ k i j, k < 29 → N' k i j = N k i j := fun k i j z => by rw [h1 k i j (by omega)]; exact upN_k (by omega)
  have sg : ∀ k i j, k ≠ 35 → N' k i j = if k = 29 + 2 * what ∧ i = 6 * r + a ∧ j = q then v else N k i j := fun k i j z => h1 k i j (by omega)
  refine ⟨by rw [nk 20 _ _ (by omega)]; exact r1, by rw [nk 20 _ _ (by omega)]; exact r2, fun k hk => ?_, fun k hk => ?_, fun k hk p hp => ?_⟩
  · obtain ⟨e1, e2⟩ := r3 k hk
    refine ⟨by rw [nk 21 _ _ (by omega)]; exact e1, fun j hj => ?_⟩
    rw [nk 23 _ _ (by omega), nk 25 _ _ (by omega)]
    exact e2 j hj
  · obtain ⟨e1, e2, e3⟩ := r4 k hk
    have hk : k < dA d := hk
    refine ⟨by rw [nk 26 _ _ (by omega)]; exact e1, by rw [nk 27 _ _ (by omega)]; exact e2, fun p hp => ?_⟩
    obtain ⟨f1, f2, f3⟩ := e3 p hp
    refine ⟨?_, ?_, ?_⟩
    · rw [sg 29 _ _ (by omega), bnd_F, ← f1]
      by_cases c : what = 0 ∧ k = a ∧ p = q
      · rw [if_pos (by omega), if_pos c]
      · rw [if_neg (by omega), if_neg c]
    · rw [sg 31 _ _ (by omega), bnd_E, ← f2]
      by_cases c : what = 1 ∧ k = a ∧ p = q
      · rw [if_pos (by omega), if_pos c]
      · rw [if_neg (by omega), if_neg c]
    · rw [sg 33 _ _ (by omega), bnd_L, ← f3]
      by_cases c : what = 2 ∧ k = a ∧ p = q
      · rw [if_pos (by omega), if_pos c]
      · rw [if_neg (by omega), if_neg c]
  · by_cases e : k = a
    · subst e; exact h2 p hp
    · have hk : k < dA d := hk
      rw [h1 35 _ _ (by omega), upN_k (by omega), bas_ne d e]
      exact r5 k hk p hp
theorem XS.of {N N' : Nm} {g : Ge} {d : Dk} (h : XS N g d) (hN : ∀ k i j, k ≤ 15 ∨ (20 ≤ k ∧ k ≤ 35) → N' k i j = N k i j) : XS N' g d := by
  obtain ⟨h1, h2, h3⟩ := h
  refine ⟨by rw [hN 0 _ _ (by omega)]; exact h1, h2, fun q => ?_⟩
  rw [hN 0 _ _ (by omega)] at q
  obtain ⟨a1, a2, a3, a4⟩ := h3 q
  rw [hN 0 _ _ (by omega)]
  exact ⟨a1, a2.of (fun k a j q1 q2 => hN k a j (by omega)), a3, fun z => (a4 z).fr a1.1 (fun k i j z1 z2 => hN k i j (by omega)) (fun _ _ => rfl)⟩
section Change9
variable {K : Kx} {N : Nm} {g : Ge} {d : Dk} {wg : Nat → Int} {p : Nat}
def mnN (N : Nm) (p : Nat) (w : Int) : Nm := upN (upN N 17 0 p w) 16 0 1 ((p : Int) + 1)
theorem x_month {w : Int} {Pq : Int → Nm → Ge → Prop} (hX : XS N g d) (hY : YI N wg p) (rw' : rI w) (hq1 : N 0 0 9 = 1 ∧ (0 ≤ w ∧ w ≤ 9999) ∧ p < 12 → ∀ N' g', XT (mnN N p w) g d N' g' → Pq (pIn (PD d) (fun j => if j = p then w else wg j) p) N' g')
    (hq0 : ∀ k, (k = 0 ∧ N 0 0 9 ≠ 1) ∨ (k = 1 ∧ N 0 0 9 = 1 ∧ ¬ (0 ≤ w ∧ w ≤ 9999)) ∨ (k = 3 ∧ N 0 0 9 = 1 ∧ (0 ≤ w ∧ w ≤ 9999) ∧ p = 12) → Pq HID (upN N 19 0 k (N 19 0 k + 1)) g) : Ck K YX9_month hX9_month [vr 0 0, vi w] N g (qL Pq) := by
  have h01 := hX.1
  have y1 := hY.1
  have y2 := hY.2.1
  refine Ck.intro 0 (by decide) rfl ?_
  show AW _ _ _ _ _ [some (vr 0 0), some (vi w)] _ _ _
  refine ld_a0 iX9_month_0 ?_
  refine gf_X9_hasDesk kFX9_65 iX9_month_1 ?_
  refine r_ifne iX9_month_4 (by omega) (fun h4 => ?_) (fun h4 => ?_)
  · refine ld_i1 iX9_month_21 ?_
    refine xX9_isWage kMX9_152 iX9_month_22 (by decide) (Nat.le_of_ble_eq_true rfl) rfl rfl ?_
    refine c_xisWage rw' ?_
    refine r_ifne iX9_month_25 (by exact tf_r _) (fun h25 => ?_) (fun h25 => ?_)
    · have h25 := tf_y h25
      refine ld_a0 iX9_month_42 ?_
      refine gf_X9_months kFX9_40 iX9_month_43 ?_
      refine xX8_isFull kMX9_252 iX9_month_46 (by decide) (Nat.le_of_ble_eq_true rfl) rfl rfl ?_
      refine c_isFull hY ?_
      refine r_ifeq iX9_month_49 (by exact tf_r _) (fun h49 => ?_) (fun h49 => ?_)
      · have h49 := tf_n h49
        refine ld_a0 iX9_month_66 ?_
        refine gf_X9_months kFX9_40 iX9_month_67 ?_
        refine gf_X8_wages kFX9_256 iX9_month_70 ?_
        refine ld_a0 iX9_month_73 ?_
        refine gf_X9_months kFX9_40 iX9_month_74 ?_
        refine gf_X8_passed kFX9_88 iX9_month_77 ?_
        rw [y1]
        refine ld_i1 iX9_month_80 ?_
        refine as_17 rfl (by omega) iX9_month_81 ?_
        refine ld_a0 iX9_month_82 ?_
        refine gf_X9_months kFX9_40 iX9_month_83 ?_
        refine r_dup rfl iX9_month_86 ?_
        refine gf_X8_passed kFX9_88 iX9_month_87 ?_
        rw [upN_k (by decide), y1]
        refine r_iconst iX9_month_90 ?_
        refine r_iadd iX9_month_91 ?_
        refine pf_X8_passed kFX9_88 iX9_month_92 ?_
        show AW _ _ _ _ _ _ _ (mnN N p w) _
        have hX1 : XS (mnN N p w) g d := hX.of (fun k i j q => by unfold mnN; rw [upN_k (by omega), upN_k (by omega)])
        have hY1 : YI (mnN N p w) (fun j => if j = p then w else wg j) (p + 1) := by
          refine ⟨by unfold mnN; rw [upN_eq]; omega, by omega, fun j hj => ?_⟩
          unfold mnN
          rw [upN_k (by decide)]
          by_cases e : j = p
          · rw [e, upN_eq]; simp only [if_true]; exact ⟨trivial, h25⟩
          · rw [upN_j e]; simp only [if_neg e]; exact hY.2.2 j (by omega)
        have h91 : (mnN N p w) 0 0 9 = 1 := by unfold mnN; rw [upN_k (by omega), upN_k (by omega)]; omega
        refine ld_a0 iX9_month_95 ?_
        refine gf_X9_months kFX9_40 iX9_month_96 ?_
        refine ld_a0 iX9_month_99 ?_
        refine r_iconst iX9_month_100 ?_
        refine xX9_line kMX9_100 iX9_month_101 (by decide) (Nat.le_of_ble_eq_true rfl) rfl rfl ?_
        refine c_xline hX1 h91 (by omega) (fun N1 g1 P s G f1 f2 f3 f4 => ?_)
        refine ld_a0 iX9_month_104 ?_
        refine gf_X9_months kFX9_40 iX9_month_105 ?_
        refine gf_X8_passed kFX9_88 iX9_month_108 ?_
        rw [(hY1.frq f1.1).1]
        refine r_iconst iX9_month_111 ?_
        refine r_isub iX9_month_112 ?_
        rw [show ((p + 1 : Nat) : Int) - 1 = (p : Int) by omega]
        refine xX8_paidIn kMX9_259 iX9_month_113 (by decide) (Nat.le_of_ble_eq_true rfl) rfl rfl ?_
        refine c_yPaidIn f3 (hY1.frq f1.1) (by omega) (fun N2 e1 => ?_)
        refine t_long rfl iX9_month_116 ?_
        exact hq1 ⟨by omega, h25, by omega⟩ N2 g1 (f1.tr (XT.sr f1.2.2 e1))
      · have h49 := tf_y h49
        refine ld_a0 iX9_month_52 ?_
        refine gf_X9_refusals kFX9_51 iX9_month_53 ?_
        refine r_iconst iX9_month_56 ?_
        refine r_dup2 rfl rfl iX9_month_57 ?_
        refine al_19 (n := 3) (by omega) (by omega) iX9_month_58 ?_
        refine r_iconst iX9_month_59 ?_
        refine r_iadd iX9_month_60 ?_
        refine as_19 (n := 3) (by omega) (by omega) iX9_month_61 ?_
        refine r_ldc2 (z := -9000000000000000000) kKX9_155 (by decide) iX9_month_62 ?_
        refine t_long rfl iX9_month_65 ?_
        exact hq0 3 (Or.inr (Or.inr ⟨rfl, by omega, h25, h49⟩))
    · have h25 := tf_n h25
      refine ld_a0 iX9_month_28 ?_
      refine gf_X9_refusals kFX9_51 iX9_month_29 ?_
      refine r_iconst iX9_month_32 ?_
      refine r_dup2 rfl rfl iX9_month_33 ?_
      refine al_19 (n := 1) (by omega) (by omega) iX9_month_34 ?_
      refine r_iconst iX9_month_35 ?_
      refine r_iadd iX9_month_36 ?_
      refine as_19 (n := 1) (by omega) (by omega) iX9_month_37 ?_
      refine r_ldc2 (z := -9000000000000000000) kKX9_155 (by decide) iX9_month_38 ?_
      refine t_long rfl iX9_month_41 ?_
      exact hq0 1 (Or.inr (Or.inl ⟨rfl, by omega, h25⟩))
  · refine ld_a0 iX9_month_7 ?_
    refine gf_X9_refusals kFX9_51 iX9_month_8 ?_
    refine r_iconst iX9_month_11 ?_
    refine r_dup2 rfl rfl iX9_month_12 ?_
    refine al_19 (n := 0) (by omega) (by omega) iX9_month_13 ?_
    refine r_iconst iX9_month_14 ?_
    refine r_iadd iX9_month_15 ?_
    refine as_19 (n := 0) (by omega) (by omega) iX9_month_16 ?_
    refine r_ldc2 (z := -9000000000000000000) kKX9_155 (by decide) iX9_month_17 ?_
    refine t_long rfl iX9_month_20 ?_
    exact hq0 0 (Or.inl ⟨rfl, by omega⟩)
theorem x_takeBack {Pq : Int → Nm → Ge → Prop} (hX : XS N g d) (hY : YI N wg p) (hq1 : N 0 0 9 = 1 ∧ 0 < p → Pq (wg (p - 1)) (upN N 16 0 1 ((p - 1 : Nat) : Int)) g) (hq0 : ¬ (N 0 0 9 = 1 ∧ 0 < p) → Pq (-1) (upN N 19 0 0 (N 19 0 0 + 1)) g) : Ck K YX9_takeBack hX9_takeBack [vr 0 0] N g (qI Pq) := by
  have h01 := hX.1
  have y1 := hY.1
  have y2 := hY.2.1
  refine Ck.intro 0 (by decide) rfl ?_
  show AW _ _ _ _ _ [some (vr 0 0)] _ _ _
  refine ld_a0 iX9_takeBack_0 ?_
  refine gf_X9_hasDesk kFX9_65 iX9_takeBack_1 ?_
  refine r_ifeq iX9_takeBack_4 (by omega) (fun h4 => ?_) (fun h4 => ?_)
  · refine ld_a0 iX9_takeBack_18 ?_
    refine r_iconst iX9_takeBack_19 ?_
    refine r_iconst iX9_takeBack_20 ?_
    refine xX9_refuse kMX9_237 iX9_takeBack_21 (by decide) (Nat.le_of_ble_eq_true rfl) rfl rfl ?_
    refine c_refuse (k := 0) (by omega) ?_
    refine t_int rfl iX9_takeBack_24 ?_
    exact hq0 (by omega)
  · refine ld_a0 iX9_takeBack_7 ?_
    refine gf_X9_months kFX9_40 iX9_takeBack_8 ?_
    refine gf_X8_passed kFX9_88 iX9_takeBack_11 ?_
    rw [y1]
    refine r_iconst iX9_takeBack_14 ?_
    refine r_icmpge iX9_takeBack_15 (by omega) (by omega) (fun h15 => ?_) (fun h15 => ?_)
    · refine ld_a0 iX9_takeBack_25 ?_
      refine gf_X9_months kFX9_40 iX9_takeBack_26 ?_
      refine r_dup rfl iX9_takeBack_29 ?_
      refine gf_X8_passed kFX9_88 iX9_takeBack_30 ?_
      rw [y1]
      refine r_iconst iX9_takeBack_33 ?_
      refine r_isub iX9_takeBack_34 ?_
      rw [show (p : Int) - 1 = ((p - 1 : Nat) : Int) by omega]
      refine pf_X8_passed kFX9_88 iX9_takeBack_35 ?_
      refine ld_a0 iX9_takeBack_38 ?_
      refine gf_X9_months kFX9_40 iX9_takeBack_39 ?_
      refine gf_X8_wages kFX9_256 iX9_takeBack_42 ?_
      refine ld_a0 iX9_takeBack_45 ?_
      refine gf_X9_months kFX9_40 iX9_takeBack_46 ?_
      refine gf_X8_passed kFX9_88 iX9_takeBack_49 ?_
      rw [upN_eq]
      refine al_17 rfl (by omega) iX9_takeBack_52 ?_
      rw [upN_k (by decide), (hY.2.2 (p - 1) (by omega)).1]
      refine t_int rfl iX9_takeBack_53 ?_
      exact hq1 (by omega)
    · refine ld_a0 iX9_takeBack_18 ?_
      refine r_iconst iX9_takeBack_19 ?_
      refine r_iconst iX9_takeBack_20 ?_
      refine xX9_refuse kMX9_237 iX9_takeBack_21 (by decide) (Nat.le_of_ble_eq_true rfl) rfl rfl ?_
      refine c_refuse (k := 0) (by omega) ?_
      refine t_int rfl iX9_takeBack_24 ?_
      exact hq0 (by omega)
theorem x_benefit {u : Int} {Pq : Int → Nm → Ge → Prop} (hX : XS N g d) (ru : rI u) (hq1 : N 0 0 9 = 1 ∧ (0 ≤ u ∧ u ≤ 999) ∧ u ≠ dB d → Pq (dB d) (upN (upN N 20 g.1 1 u) 0 0 10 1) g)
    (hq0 : ∀ k, (k = 0 ∧ N 0 0 9 ≠ 1) ∨ (k = 1 ∧ N 0 0 9 = 1 ∧ ¬ (0 ≤ u ∧ u ≤ 999)) ∨ (k = 2 ∧ N 0 0 9 = 1 ∧ (0 ≤ u ∧ u ≤ 999) ∧ u = dB d) → Pq (-1) (upN N 19 0 k (N 19 0 k + 1)) g) : Ck K YX9_benefit hX9_benefit [vr 0 0, vi u] N g (qI Pq) := by
  have h01 := hX.1
  refine Ck.intro 1 (by decide) rfl ?_
  show AW _ _ _ _ _ [some (vr 0 0), some (vi u), none] _ _ _
  refine ld_a0 iX9_benefit_0 ?_
  refine gf_X9_hasDesk kFX9_65 iX9_benefit_1 ?_
  refine r_ifne iX9_benefit_4 (by omega) (fun h4 => ?_) (fun h4 => ?_)
  · obtain ⟨hW, hR, -⟩ := hX.2.2 (by omega)
    have hb := hW.2.1
    refine ld_i1 iX9_benefit_14 ?_
    refine r_iflt iX9_benefit_15 (by omega) (fun h15 => ?_) (fun h15 => ?_)
    · refine ld_a0 iX9_benefit_25 ?_
      refine r_iconst iX9_benefit_26 ?_
      refine r_iconst iX9_benefit_27 ?_
      refine xX9_refuse kMX9_237 iX9_benefit_28 (by decide) (Nat.le_of_ble_eq_true rfl) rfl rfl ?_
      refine c_refuse (k := 1) (by omega) ?_
      refine t_int rfl iX9_benefit_31 ?_
      exact hq0 1 (Or.inr (Or.inl ⟨rfl, by omega, by omega⟩))
    · refine ld_i1 iX9_benefit_18 ?_
      refine r_sipush (by decide) iX9_benefit_19 ?_
      refine r_icmple iX9_benefit_22 (by omega) (by omega) (fun h22 => ?_) (fun h22 => ?_)
      · refine ld_i1 iX9_benefit_32 ?_
        refine ld_a0 iX9_benefit_33 ?_
        refine gf_X9_rules kFX9_58 iX9_benefit_34 ?_
        refine gf_X5_benefit kFX9_94 iX9_benefit_37 ?_
        rw [hR.2.1]
        refine r_icmpne iX9_benefit_40 (by omega) (by omega) (fun h40 => ?_) (fun h40 => ?_)
        · refine ld_a0 iX9_benefit_50 ?_
          refine gf_X9_rules kFX9_58 iX9_benefit_51 ?_
          refine gf_X5_benefit kFX9_94 iX9_benefit_54 ?_
          rw [hR.2.1]
          refine sv_i2 (by decide) rfl iX9_benefit_57 ?_
          refine ld_a0 iX9_benefit_58 ?_
          refine gf_X9_rules kFX9_58 iX9_benefit_59 ?_
          refine ld_i1 iX9_benefit_62 ?_
          refine pf_X5_benefit kFX9_94 iX9_benefit_63 ?_
          refine ld_a0 iX9_benefit_66 ?_
          refine r_iconst iX9_benefit_67 ?_
          refine pf_X9_stale (by omega) kFX9_69 iX9_benefit_68 ?_
          refine ld_i2 iX9_benefit_71 ?_
          refine t_int rfl iX9_benefit_72 ?_
          exact hq1 ⟨by omega, by omega, by omega⟩
        · refine ld_a0 iX9_benefit_43 ?_
          refine r_iconst iX9_benefit_44 ?_
          refine r_iconst iX9_benefit_45 ?_
          refine xX9_refuse kMX9_237 iX9_benefit_46 (by decide) (Nat.le_of_ble_eq_true rfl) rfl rfl ?_
          refine c_refuse (k := 2) (by omega) ?_
          refine t_int rfl iX9_benefit_49 ?_
          exact hq0 2 (Or.inr (Or.inr ⟨rfl, by omega, by omega, by omega⟩))
      · refine ld_a0 iX9_benefit_25 ?_
        refine r_iconst iX9_benefit_26 ?_
        refine r_iconst iX9_benefit_27 ?_
        refine xX9_refuse kMX9_237 iX9_benefit_28 (by decide) (Nat.le_of_ble_eq_true rfl) rfl rfl ?_
        refine c_refuse (k := 1) (by omega) ?_
        refine t_int rfl iX9_benefit_31 ?_
        exact hq0 1 (Or.inr (Or.inl ⟨rfl, by omega, by omega⟩))
  · refine ld_a0 iX9_benefit_7 ?_
    refine r_iconst iX9_benefit_8 ?_
    refine r_iconst iX9_benefit_9 ?_
    refine xX9_refuse kMX9_237 iX9_benefit_10 (by decide) (Nat.le_of_ble_eq_true rfl) rfl rfl ?_
    refine c_refuse (k := 0) (by omega) ?_
    refine t_int rfl iX9_benefit_13 ?_
    exact hq0 0 (Or.inl ⟨rfl, by omega⟩)
theorem wben_X {N : Nm} {u : Int} (hX : XS N g d) (h9 : N 0 0 9 = 1) (hu : 0 ≤ u ∧ u ≤ 999) : XS (upN (upN N 20 g.1 1 u) 0 0 10 1) g (wben d u) := by
  obtain ⟨hW, hR, -⟩ := hX.2.2 h9
  refine ⟨by rw [upN_j (by decide), upN_k (by decide)]; exact hX.1, hX.2.1, fun _ => ⟨⟨hW.1, hu, hW.2.2⟩, ?_, Or.inr (upN_eq _ _ _ _ _), fun q => by rw [upN_eq] at q; omega⟩⟩
  have hR2 : RuI N g.1 (wben d (dB d)) := hR
  obtain ⟨r1, r2, r3, r4, r5⟩ := hR
  have nk : ∀ k i j, 21 ≤ k → upN (upN N 20 g.1 1 u) 0 0 10 1 k i j = N k i j := fun k i j z => by rw [upN_k (by omega), upN_k (by omega)]
  have bs : ∀ a q, bas (wben d u) a q = bas d a q := by
    intro a q
    induction q with
    | zero => rfl
    | succ q ih => rw [bas, bas, ih]; rfl
  refine ⟨by rw [upN_k (by decide), upN_j (by decide)]; exact r1, by rw [upN_k (by decide), upN_eq]; rfl, fun a ha => ?_, fun a ha => ?_, fun a ha q hq => ?_⟩
  · obtain ⟨e1, e2⟩ := r3 a ha
    refine ⟨by rw [nk 21 _ _ (by omega)]; exact e1, fun j hj => ?_⟩
    rw [nk 23 _ _ (by omega), nk 25 _ _ (by omega)]
    exact e2 j hj
  · obtain ⟨e1, e2, e3⟩ := r4 a ha
    refine ⟨by rw [nk 26 _ _ (by omega)]; exact e1, by rw [nk 27 _ _ (by omega)]; exact e2, fun q hq => ?_⟩
    rw [nk 29 _ _ (by omega), nk 31 _ _ (by omega), nk 33 _ _ (by omega)]
    exact e3 q hq
  · rw [nk 35 _ _ (by omega), bs]; exact r5 a ha q hq
end Change9
