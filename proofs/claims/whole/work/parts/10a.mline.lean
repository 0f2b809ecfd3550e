/-! own text: the reference lays its lines -/
theorem vals_hv (d : Dk) (b hv w : Int) : ∀ n, vals d b (-1) hv w n = vals d b (-1) 0 w n
  | 0 => rfl
  | n + 1 => by
    funext k
    rw [vals, vals, vals_hv d b hv w n]
    simp only
    rw [if_neg (show ¬ (n : Int) = -1 by omega), if_neg (show ¬ (n : Int) = -1 by omega)]
theorem VA_hv (d : Dk) (b hv w : Int) : VA d b (-1) hv w = VA d b (-1) 0 w := vals_hv d b hv w _
theorem paid_hv (d : Dk) (b hv w : Int) : paid d b (-1) hv w = paid d b (-1) 0 w := by unfold paid; rw [VA_hv]
theorem lvF_eq (d : Dk) (b hv of : Int) (w : Nat) : of < 6 → -1 ≤ of → lvF d b (-1) hv of w = LF d b (rwo of) w := by
  intro h1 h2
  unfold lvF LF rwo
  rw [VA_hv, paid_hv]
  by_cases e : of = -1
  · rw [if_pos e, if_pos (by rw [if_pos e])]
  · rw [if_neg e, if_neg (by rw [if_neg e]; omega), if_neg e]
/-- the reference with its desk -/
def MS (N : Nm) (d : Dk) : Prop := (N 40 0 22 = 0 ∨ N 40 0 22 = 1) ∧ N 40 0 27 = -1 ∧ (N 40 0 22 = 1 → WD d ∧ MoI N d ∧ N 40 0 20 = dB d)
/-- nothing of the reference has changed but what it lays anew each time -/
def FrV (N N' : Nm) : Prop := ∀ k i j, ¬ (56 ≤ k ∧ k ≤ 59) → ¬ (k = 40 ∧ (j = 0 ∨ j = 28 ∨ j = 31 ∨ j = 33)) → N' k i j = N k i j
theorem FrV.rf (N : Nm) : FrV N N := fun _ _ _ _ _ => rfl
theorem FrV.tr {A B C : Nm} (h1 : FrV A B) (h2 : FrV B C) : FrV A C := fun k a j q z => (h2 k a j q z).trans (h1 k a j q z)
theorem FrX.v {lo hi : Nat} {A B : Nm} (h : FrX lo hi A B) (h1 : 56 ≤ lo) (h2 : hi ≤ 59) : FrV A B := fun k a j q _ => h k a j (by omega)
theorem FrV.up {A B : Nm} {k i j : Nat} {v : Int} (h : FrV A B) (hk : (56 ≤ k ∧ k ≤ 59) ∨ (k = 40 ∧ (j = 0 ∨ j = 28 ∨ j = 31 ∨ j = 33))) : FrV A (upN B k i j v) := fun k' a' j' q z => by
  rw [← h k' a' j' q z]
  exact if_neg (fun y => by omega)
theorem MS.v {N N' : Nm} {d : Dk} (h : MS N d) (q : FrV N N') : MS N' d := by
  obtain ⟨h1, h2, h3⟩ := h
  refine ⟨by rw [q 40 0 22 (by omega) (by omega)]; exact h1, by rw [q 40 0 27 (by omega) (by omega)]; exact h2, fun z => ?_⟩
  rw [q 40 0 22 (by omega) (by omega)] at z
  obtain ⟨a1, a2, a3⟩ := h3 z
  exact ⟨a1, a2.of (q 40 0 19 (by omega) (by omega)) (fun k j q1 q2 => q k 0 j (by omega) (by omega)), by rw [q 40 0 20 (by omega) (by omega)]; exact a3⟩
theorem MS.h {N : Nm} {d : Dk} (h : MS N d) (h1 : N 40 0 22 = 1) : MoH N (dB d) (-1) (N 40 0 28) := ⟨(h.2.2 h1).2.2, h.2.1, rfl⟩
/-- nothing has changed but laid lines and pieces -/
def FrW (N N' : Nm) : Prop := ∀ k i j, ¬ (56 ≤ k ∧ k ≤ 59) → ¬ (k = 40 ∧ j = 31) → N' k i j = N k i j
theorem FrW.v {A B : Nm} (h : FrW A B) : FrV A B := fun k i j z1 z2 => h k i j z1 (by omega)
theorem FrX.w {lo hi : Nat} {A B : Nm} (h : FrX lo hi A B) (h1 : 56 ≤ lo) (h2 : hi ≤ 59) : FrW A B := fun k a j q _ => h k a j (by omega)
theorem FrW.up {A B : Nm} {k i j : Nat} {v : Int} (h : FrW A B) (hk : (56 ≤ k ∧ k ≤ 59) ∨ (k = 40 ∧ j = 31)) : FrW A (upN B k i j v) := fun k' a' j' q z => by
  rw [← h k' a' j' q z]
  exact if_neg (fun y => by omega)
/-- the laid line is F -/
def La (N : Nm) (F : Nat → Int) : Prop := ∀ w, w < 10000 → N 57 0 w = F w ∧ bF (F w)
/-- its pieces are laid -/
def Lp (N : Nm) (P : Nat) (s : Nat → Nat) : Prop := N 40 0 31 = P ∧ ∀ p, p < P → N 58 0 p = s p
section MLine
variable {K : Kx} {N : Nm} {g : Ge} {d : Dk} {F : Nat → Int}
theorem c_mAt {of w : Int} {Pq : Int → Nm → Ge → Prop} (hM : MS N d) (h1 : N 40 0 22 = 1) (hw : 0 ≤ w ∧ w ≤ 9999) (hof : -1 ≤ of ∧ of < dA d) (hq : ∀ N', FrX 56 56 N N' → Pq (LF d (dB d) (rwo of) w.toNat) N' g) : Ck K YX10_valueAt hX10_valueAt [vr 40 0, vi of, vi w] N g (qL Pq) := by
  obtain ⟨a1, a2, a3⟩ := hM.2.2 h1
  have hA := a1.1
  refine c_mValueAt a2 a1 (hM.h h1) a1.2.1 hw (by omega) (fun a _ q => by omega) hof (fun N' f1 => ?_)
  have e := lvF_eq d (dB d) (N 40 0 28) of w.toNat (by omega) hof.1
  rw [show ((w.toNat : Nat) : Int) = w by omega] at e
  rw [e]; exact hq N' f1
theorem c_laysLine {of : Int} {Pq : Nm → Ge → Prop} (hM : MS N d) (h1 : N 40 0 22 = 1) (hof : -1 ≤ of ∧ of < dA d) (hq : ∀ N', FrX 56 57 N N' → La N' (LF d (dB d) (rwo of)) → Pq N' g) : Ck K YX10_laysLine hX10_laysLine [vr 40 0, vi of] N g (qV Pq) := by
  obtain ⟨a1, a2, a3⟩ := hM.2.2 h1
  have hro := rwo_ok hof
  refine Ck.intro 1 (by decide) rfl ?_
  show AW _ _ _ _ _ [some (vr 40 0), some (vi of), none] _ _ _
  have loop : ∀ (n w : Nat) (c : Int) (N' : Nm), 10000 - w = n → w ≤ 10000 → c = w → FrX 56 57 N N' → (∀ u, u < w → N' 57 0 u = LF d (dB d) (rwo of) u) → AW K YX10_laysLine hX10_laysLine (qV Pq) 2 [some (vr 40 0), some (vi of), some (vi c)] [] N' g := by
    intro n
    induction n using Nat.strongRecOn with
    | _ n ih =>
      intro w c N' e hw hc hF hl
      subst hc
      have hM' : MS N' d := hM.v (hF.v (by omega) (by omega))
      refine ld_i2 iX10_laysLine_2 ?_
      refine r_sipush (by decide) iX10_laysLine_3 ?_
      refine r_icmpge iX10_laysLine_6 (by omega) (by omega) (fun h6 => ?_) (fun h6 => ?_)
      · refine t_void rfl iX10_laysLine_27 ?_
        exact hq N' hF (fun u hu => ⟨hl u (by omega), by have := LF_bd a1 a1.2.1 hro u hu; omega⟩)
      · refine ld_a0 iX10_laysLine_9 ?_
        refine gf_X10_line kFX10_63 iX10_laysLine_10 ?_
        refine ld_i2 iX10_laysLine_13 ?_
        refine ld_a0 iX10_laysLine_14 ?_
        refine ld_i1 iX10_laysLine_15 ?_
        refine ld_i2 iX10_laysLine_16 ?_
        refine xX10_valueAt kMX10_216 iX10_laysLine_17 (by decide) (Nat.le_of_ble_eq_true rfl) rfl rfl ?_
        refine c_mAt hM' (by rw [hF 40 _ _ (by omega)]; exact h1) (by omega) hof (fun N2 e1 => ?_)
        rw [show ((w : Nat) : Int).toNat = w from rfl]
        refine as_57 rfl (by omega) iX10_laysLine_20 ?_
        refine inc_2 (by decide) rfl iX10_laysLine_21 ?_
        refine r_goto iX10_laysLine_24 ?_
        refine ih (10000 - (w + 1)) (by omega) (w + 1) _ _ rfl (by omega) (by omega) ((hF.tr (e1.wk (by omega) (by omega))).up (by omega)) (fun u hu => ?_)
        by_cases eu : u = w
        · rw [eu, upN_eq]
        · rw [upN_j eu, e1 57 _ _ (by omega)]; exact hl u (by omega)
  refine r_iconst iX10_laysLine_0 ?_
  refine sv_i2 (by decide) rfl iX10_laysLine_1 ?_
  exact loop 10000 0 _ N (by omega) (by omega) (by omega) (FrX.rf _ _ _) (fun u hu => by omega)
theorem c_step {w : Nat} {Pq : Int → Nm → Ge → Prop} (hL : La N F) (hw : w < 10000) (hq : Pq (stp F w) N g) : Ck K YX10_step hX10_step [vr 40 0, vi w] N g (qL Pq) := by
  refine Ck.intro 0 (by decide) rfl ?_
  show AW _ _ _ _ _ [some (vr 40 0), some (vi w)] _ _ _
  unfold stp at hq
  refine ld_i1 iX10_step_0 ?_
  refine r_sipush (by decide) iX10_step_1 ?_
  refine r_icmpge iX10_step_4 (by omega) (by omega) (fun h4 => ?_) (fun h4 => ?_)
  · refine r_lconst (v := 0) (by decide) iX10_step_25 ?_
    refine t_long rfl iX10_step_26 ?_
    first
      | (rw [if_pos (by omega)] at hq; exact hq)
      | (rw [if_neg (by omega)] at hq; exact hq)
  · refine ld_a0 iX10_step_7 ?_
    refine gf_X10_line kFX10_63 iX10_step_8 ?_
    refine ld_i1 iX10_step_11 ?_
    refine r_iconst iX10_step_12 ?_
    refine r_iadd iX10_step_13 ?_
    have b1 := hL (w + 1) (by omega)
    refine al_57 (n := (w + 1)) (by omega) (by omega) iX10_step_14 ?_
    rw [b1.1]
    refine ld_a0 iX10_step_15 ?_
    refine gf_X10_line kFX10_63 iX10_step_16 ?_
    refine ld_i1 iX10_step_19 ?_
    refine al_57 rfl (by omega) iX10_step_20 ?_
    rw [(hL w (by omega)).1]
    refine r_lsub iX10_step_21 ?_
    refine r_goto iX10_step_22 ?_
    refine t_long rfl iX10_step_26 ?_
    first
      | (rw [if_pos (by omega)] at hq; exact hq)
      | (rw [if_neg (by omega)] at hq; exact hq)
theorem stp_bd (h : ∀ w, w < 10000 → bF (F w)) {w : Nat} (hw : w < 10000) : -1000000000000000000 ≤ stp F w ∧ stp F w ≤ 1000000000000000000 := by
  unfold stp
  split
  · have := h w hw; have := h (w + 1) (by omega); omega
  · omega
theorem La.bd (h : La N F) : ∀ w, w < 10000 → bF (F w) := fun w hw => (h w hw).2
theorem La.of {N' : Nm} (h : La N F) (q : ∀ j, N' 57 0 j = N 57 0 j) : La N' F := fun w hw => by rw [q]; exact h w hw
/-- pieces laid so far -/
def Pp (F : Nat → Int) (p : Nat) (s : Nat → Nat) : Prop := s 0 = 0 ∧ s p ≤ 10000 ∧ ∀ q, q < p → s q < s (q + 1) ∧ (∀ u, s q ≤ u → u + 1 < s (q + 1) → stp F u = stp F (s q)) ∧ (s (q + 1) < 10000 → s q + 2 ≤ s (q + 1) ∧ stp F (s (q + 1) - 1) ≠ stp F (s q))
theorem Pp.le {p : Nat} {s : Nat → Nat} (h : Pp F p s) : ∀ q, q ≤ p → ∀ k, k ≤ q → s k + (q - k) ≤ s q
  | 0, _, k, hk => by rw [show k = 0 by omega]; omega
  | q + 1, hq, k, hk => by
    rcases Nat.lt_or_ge q k with e | e
    · rw [show k = q + 1 by omega]; omega
    · have a := Pp.le h q (by omega) k e
      have b := (h.2.2 q (by omega)).1
      omega
theorem Pp.ps {p : Nat} {s : Nat → Nat} (h : Pp F p s) (h1 : 1 ≤ p) (h2 : s p = 10000) : Ps F p s := by
  refine ⟨h1, h.1, h2, fun q hq => (h.2.2 q hq).1, fun q hq => (h.2.2 q hq).2.1, fun q hq => (h.2.2 q (by omega)).2.2 ?_⟩
  have := h.le p (Nat.le_refl _) (q + 1) (by omega)
  omega
theorem Pp.next {p : Nat} {s : Nat → Nat} (h : Pp F p s) {e : Nat} (h0 : s p < 10000) (he : s p < e ∧ e ≤ 10000) (hs : ∀ u, s p ≤ u → u + 1 < e → stp F u = stp F (s p)) (hx : e < 10000 → s p + 2 ≤ e ∧ stp F (e - 1) ≠ stp F (s p)) : Pp F (p + 1) (fun q => if q = p + 1 then e else s q) := by
  refine ⟨by simp only; rw [if_neg (by omega)]; exact h.1, by simp only [if_true]; exact he.2, fun q hq => ?_⟩
  simp only
  rw [if_neg (show q ≠ p + 1 by omega)]
  by_cases c : q = p
  · subst c
    rw [if_pos rfl]
    exact ⟨he.1, hs, hx⟩
  · rw [if_neg (show q + 1 ≠ p + 1 by omega)]
    exact h.2.2 q (by omega)
theorem c_laysPiecesW {of : Int} {Pq : Nm → Ge → Prop} (hM : MS N d) (h1 : N 40 0 22 = 1) (hof : -1 ≤ of ∧ of < dA d) (hq : ∀ N' P s, FrW N N' → La N' (LF d (dB d) (rwo of)) → Lp N' P s → Ps (LF d (dB d) (rwo of)) P s → Pq N' g) : Ck K YX10_laysPieces hX10_laysPieces [vr 40 0, vi of] N g (qV Pq) := by
  refine Ck.intro 3 (by decide) rfl ?_
  show AW _ _ _ _ _ [some (vr 40 0), some (vi of), none, none, none] _ _ _
  have outer : ∀ (n w p : Nat) (s : Nat → Nat) (c : Int) (N' : Nm), 10001 - w = n → w ≤ 10001 → c = w → FrW N N' → La N' (LF d (dB d) (rwo of)) → Lp N' p s → Pp (LF d (dB d) (rwo of)) p s → (s p = w ∨ (s p = 10000 ∧ 10000 ≤ w)) → AW K YX10_laysPieces hX10_laysPieces (qV Pq) 12 [some (vr 40 0), some (vi of), some (vi c), none, none] [] N' g := by
    intro n
    induction n using Nat.strongRecOn with
    | _ n ih =>
      intro w p s c N' e hw hc hF hL hLp hPp hsw
      subst hc
      obtain ⟨l1, l2⟩ := hLp
      have hpl := hPp.le p (Nat.le_refl _) 0 (by omega)
      have hpt := hPp.2.1
      have tl : ∀ (N2 : Nm) (u : Nat) (c : Int), w < 10000 → FrW N N2 → La N2 (LF d (dB d) (rwo of)) → Lp N2 (p + 1) s → c = u → w < u → u ≤ 10000 → (∀ v, w ≤ v → v < u → v < 9999 → stp (LF d (dB d) (rwo of)) v = stp (LF d (dB d) (rwo of)) w) → (u < 9999 → stp (LF d (dB d) (rwo of)) u ≠ stp (LF d (dB d) (rwo of)) w) → AW K YX10_laysPieces hX10_laysPieces (qV Pq) 71 [some (vr 40 0), some (vi of), some (vi c), some (vl (stp (LF d (dB d) (rwo of)) w)), none] [] N2 g := by
        intro N2 u c k0 k1 k2 k3 k4 k5 k6 k7 k8
        subst k4
        refine inc_2 (by decide) rfl iX10_laysPieces_71 ?_
        refine r_goto iX10_laysPieces_74 ?_
        refine fg_3 ?_
        have hs : s p = w := by omega
        obtain ⟨e', he'⟩ : ∃ e' : Nat, (u < 10000 ∧ e' = u + 1) ∨ (u = 10000 ∧ e' = 10000) := by
          rcases Nat.lt_or_ge u 10000 with z | z
          · exact ⟨u + 1, Or.inl ⟨z, rfl⟩⟩
          · exact ⟨10000, Or.inr ⟨by omega, rfl⟩⟩
        have hn := hPp.next (e := e') (by omega) (by omega) (fun v v1 v2 => by rw [hs]; exact k7 v (by omega) (by omega) (by omega)) (fun q => ⟨by omega, by rw [hs, show e' - 1 = u by omega]; exact k8 (by omega)⟩)
        refine ih (10001 - (u + 1)) (by omega) (u + 1) (p + 1) _ _ N2 rfl (by omega) (by omega) k1 k2 ⟨k3.1, fun q hq => ?_⟩ hn (by simp only [if_true]; omega)
        simp only [if_neg (show q ≠ p + 1 by omega)]
        exact k3.2 q hq
      have inner : ∀ (m u : Nat) (c : Int) (N2 : Nm), 10000 - u = m → w < 10000 → FrW N N2 → La N2 (LF d (dB d) (rwo of)) → Lp N2 (p + 1) s → c = u → w < u → u ≤ 10000 → (∀ v, w ≤ v → v < u → v < 9999 → stp (LF d (dB d) (rwo of)) v = stp (LF d (dB d) (rwo of)) w) → AW K YX10_laysPieces hX10_laysPieces (qV Pq) 48 [some (vr 40 0), some (vi of), some (vi c), some (vl (stp (LF d (dB d) (rwo of)) w)), none] [] N2 g := by
        intro m
        induction m using Nat.strongRecOn with
        | _ m ih2 =>
          intro u c N2 em k0 k1 k2 k3 k4 k5 k6 k7
          have k4' := k4
          subst k4
          have sb := stp_bd k2.bd (show w < 10000 by omega)
          refine ld_i2 iX10_laysPieces_48 ?_
          refine r_sipush (by decide) iX10_laysPieces_49 ?_
          refine r_icmpge iX10_laysPieces_52 (by omega) (by omega) (fun h52 => ?_) (fun h52 => ?_)
          · exact tl N2 u _ k0 k1 k2 k3 rfl k5 k6 k7 (fun q => by omega)
          · have su := stp_bd k2.bd (show u < 10000 by omega)
            refine ld_a0 iX10_laysPieces_55 ?_
            refine ld_i2 iX10_laysPieces_56 ?_
            refine xX10_step kMX10_225 iX10_laysPieces_57 (by decide) (Nat.le_of_ble_eq_true rfl) rfl rfl ?_
            refine c_step k2 (by omega) ?_
            refine ld_l3 iX10_laysPieces_60 ?_
            refine r_lcne iX10_laysPieces_61 iX10_laysPieces_62 (by omega) (by omega) (fun h61 => ?_) (fun h61 => ?_)
            · exact tl N2 u _ k0 k1 k2 k3 rfl k5 k6 k7 (fun q => by omega)
            · refine inc_2 (by decide) rfl iX10_laysPieces_65 ?_
              refine r_goto iX10_laysPieces_68 ?_
              refine ih2 (10000 - (u + 1)) (by omega) (u + 1) _ N2 rfl k0 k1 k2 k3 (by omega) (by omega) (by omega) (fun v v1 v2 v3 => ?_)
              by_cases ev : v = u
              · rw [ev]; exact h61
              · exact k7 v v1 (by omega) v3
      refine ld_i2 iX10_laysPieces_12 ?_
      refine r_sipush (by decide) iX10_laysPieces_13 ?_
      refine r_icmpge iX10_laysPieces_16 (by omega) (by omega) (fun h16 => ?_) (fun h16 => ?_)
      · refine t_void rfl iX10_laysPieces_77 ?_
        have hs : s p = 10000 := by omega
        refine hq N' p s hF hL ⟨l1, l2⟩ (hPp.ps ?_ hs)
        rcases Nat.eq_zero_or_pos p with z | z
        · rw [z, hPp.1] at hs; omega
        · exact z
      · refine ld_a0 iX10_laysPieces_19 ?_
        refine gf_X10_pieceFrom kFX10_66 iX10_laysPieces_20 ?_
        refine ld_a0 iX10_laysPieces_23 ?_
        refine gf_X10_pieces kFX10_222 iX10_laysPieces_24 ?_
        rw [l1]
        refine ld_i2 iX10_laysPieces_27 ?_
        refine as_58 rfl (by omega) iX10_laysPieces_28 ?_
        refine ld_a0 iX10_laysPieces_29 ?_
        refine r_dup rfl iX10_laysPieces_30 ?_
        refine gf_X10_pieces kFX10_222 iX10_laysPieces_31 ?_
        rw [upN_k (by decide), l1]
        refine r_iconst iX10_laysPieces_34 ?_
        refine r_iadd iX10_laysPieces_35 ?_
        refine pf_X10_pieces kFX10_222 iX10_laysPieces_36 ?_
        refine ld_a0 iX10_laysPieces_39 ?_
        refine ld_i2 iX10_laysPieces_40 ?_
        refine xX10_step kMX10_225 iX10_laysPieces_41 (by decide) (Nat.le_of_ble_eq_true rfl) rfl rfl ?_
        refine c_step (N := upN (upN N' 58 0 p w) 40 0 31 (p + 1)) (hL.of (fun j => by rw [upN_k (by decide), upN_k (by decide)])) (by omega) ?_
        refine sv_l3 (by decide) rfl iX10_laysPieces_44 ?_
        refine inc_2 (by decide) rfl iX10_laysPieces_45 ?_
        refine inner (10000 - (w + 1)) (w + 1) _ _ rfl (by omega) ((hF.up (by omega)).up (by omega)) (hL.of (fun j => by rw [upN_k (by decide), upN_k (by decide)])) ⟨by rw [upN_eq]; omega, fun q hq => ?_⟩ (by omega) (by omega) (by omega) (fun v v1 v2 v3 => by rw [show v = w by omega])
        rw [upN_k (by decide)]
        by_cases eq : q = p
        · rw [eq, upN_eq]; omega
        · rw [upN_j eq]; exact l2 q (by omega)
  refine ld_a0 iX10_laysPieces_0 ?_
  refine ld_i1 iX10_laysPieces_1 ?_
  refine xX10_laysLine kMX10_219 iX10_laysPieces_2 (by decide) (Nat.le_of_ble_eq_true rfl) rfl rfl ?_
  refine c_laysLine hM h1 hof (fun N1 f1 f2 => ?_)
  refine ld_a0 iX10_laysPieces_5 ?_
  refine r_iconst iX10_laysPieces_6 ?_
  refine pf_X10_pieces kFX10_222 iX10_laysPieces_7 ?_
  refine r_iconst iX10_laysPieces_10 ?_
  refine sv_i2 (by decide) rfl iX10_laysPieces_11 ?_
  exact outer 10001 0 0 (fun _ => 0) _ _ (by omega) (by omega) (by omega) ((f1.w (by omega) (by omega)).up (by omega)) (f2.of (fun j => upN_k (by decide))) ⟨by rw [upN_eq]; rfl, fun q hq => by omega⟩ ⟨rfl, Nat.zero_le _, fun q hq => by omega⟩ (Or.inl rfl)
theorem c_laysPieces {of : Int} {Pq : Nm → Ge → Prop} (hM : MS N d) (h1 : N 40 0 22 = 1) (hof : -1 ≤ of ∧ of < dA d) (hq : ∀ N' P s, FrV N N' → La N' (LF d (dB d) (rwo of)) → Lp N' P s → Ps (LF d (dB d) (rwo of)) P s → Pq N' g) : Ck K YX10_laysPieces hX10_laysPieces [vr 40 0, vi of] N g (qV Pq) := c_laysPiecesW hM h1 hof (fun N' P s f1 f2 f3 f4 => hq N' P s f1.v f2 f3 f4)
theorem c_piecesOfW {of : Int} {Pq : Int → Nm → Ge → Prop} (hM : MS N d) (h1 : N 40 0 22 = 1) (hof : -1 ≤ of ∧ of < dA d) (hq : ∀ N' (P : Nat) s, FrW N N' → Ps (LF d (dB d) (rwo of)) P s → Pq P N' g) : Ck K YX10_piecesOf hX10_piecesOf [vr 40 0, vi of] N g (qI Pq) := by
  refine Ck.intro 0 (by decide) rfl ?_
  show AW _ _ _ _ _ [some (vr 40 0), some (vi of)] _ _ _
  refine ld_a0 iX10_piecesOf_0 ?_
  refine ld_i1 iX10_piecesOf_1 ?_
  refine xX10_laysPieces kMX10_228 iX10_piecesOf_2 (by decide) (Nat.le_of_ble_eq_true rfl) rfl rfl ?_
  refine c_laysPiecesW hM h1 hof (fun N1 P s f1 f2 f3 f4 => ?_)
  refine ld_a0 iX10_piecesOf_5 ?_
  refine gf_X10_pieces kFX10_222 iX10_piecesOf_6 ?_
  rw [f3.1]
  refine t_int rfl iX10_piecesOf_9 ?_
  exact hq N1 P s f1 f4
theorem c_piecesOf {of : Int} {Pq : Int → Nm → Ge → Prop} (hM : MS N d) (h1 : N 40 0 22 = 1) (hof : -1 ≤ of ∧ of < dA d) (hq : ∀ N' (P : Nat) s, FrV N N' → La N' (LF d (dB d) (rwo of)) → Lp N' P s → Ps (LF d (dB d) (rwo of)) P s → Pq P N' g) : Ck K YX10_piecesOf hX10_piecesOf [vr 40 0, vi of] N g (qI Pq) := by
  refine Ck.intro 0 (by decide) rfl ?_
  show AW _ _ _ _ _ [some (vr 40 0), some (vi of)] _ _ _
  refine ld_a0 iX10_piecesOf_0 ?_
  refine ld_i1 iX10_piecesOf_1 ?_
  refine xX10_laysPieces kMX10_228 iX10_piecesOf_2 (by decide) (Nat.le_of_ble_eq_true rfl) rfl rfl ?_
  refine c_laysPieces hM h1 hof (fun N1 P s f1 f2 f3 f4 => ?_)
  refine ld_a0 iX10_piecesOf_5 ?_
  refine gf_X10_pieces kFX10_222 iX10_piecesOf_6 ?_
  rw [f3.1]
  refine t_int rfl iX10_piecesOf_9 ?_
  exact hq N1 P s f1 f2 f3 f4
end MLine
