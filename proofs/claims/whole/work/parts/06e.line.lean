/-! own text: traps, the most and the least, pieces counted -/
/-- the most of F 0 .. F n -/
def mxF (F : Nat → Int) : Nat → Int
  | 0 => F 0
  | n + 1 => max (mxF F n) (F (n + 1))
theorem mxF_ge (F : Nat → Int) : ∀ n u, u ≤ n → F u ≤ mxF F n
  | 0, u, h => by rw [show u = 0 by omega]; exact Int.le_refl _
  | n + 1, u, h => by
    rw [mxF]
    rcases Nat.lt_or_ge n u with q | q
    · rw [show u = n + 1 by omega]; omega
    · have := mxF_ge F n u q; omega
theorem mxF_at (F : Nat → Int) : ∀ n, ∃ u, u ≤ n ∧ mxF F n = F u
  | 0 => ⟨0, Nat.le_refl _, rfl⟩
  | n + 1 => by
    obtain ⟨u, h1, h2⟩ := mxF_at F n
    rw [mxF]
    rcases Int.le_total (mxF F n) (F (n + 1)) with q | q
    · exact ⟨n + 1, Nat.le_refl _, by omega⟩
    · exact ⟨u, by omega, by omega⟩
/-- a lower wage pays more -/
def trB (F : Nat → Int) (w : Nat) : Bool := decide (F w < mxF F w)
/-- how many of the wages just ahead of n have p, in a row; the longest such row ahead of n -/
def rn (p : Nat → Bool) : Nat → Nat
  | 0 => 0
  | n + 1 => if p n then rn p n + 1 else 0
def lr (p : Nat → Bool) : Nat → Nat
  | 0 => 0
  | n + 1 => max (lr p n) (rn p (n + 1))
theorem rn_le (p : Nat → Bool) : ∀ n, rn p n ≤ lr p n ∧ lr p n ≤ n
  | 0 => ⟨Nat.le_refl _, Nat.le_refl _⟩
  | n + 1 => by
    have := rn_le p n
    rw [lr, rn]
    split <;> omega
theorem rn_all (p : Nat → Bool) (a : Nat) : ∀ b, a ≤ b → (∀ w, a ≤ w → w < b → p w = true) → rn p b = rn p a + (b - a) ∧ lr p b = max (lr p a) (rn p a + (b - a))
  | 0, h, _ => by rw [show a = 0 by omega]; simp [rn, lr]
  | b + 1, h, hw => by
    have h0 := rn_le p a
    rcases Nat.lt_or_ge b a with q | q
    · rw [show a = b + 1 by omega] at h0 ⊢; omega
    · have ih := rn_all p a b q (fun w h1 h2 => hw w h1 (by omega))
      rw [lr, rn, hw b q (by omega), ih.1, ih.2]
      simp; omega
theorem rn_none (p : Nat → Bool) (a : Nat) : ∀ b, a < b → (∀ w, a ≤ w → w < b → p w = false) → rn p b = 0 ∧ lr p b = lr p a
  | 0, h, _ => by omega
  | b + 1, h, hw => by
    have e : rn p (b + 1) = 0 := by rw [rn, hw b (by omega) (by omega)]; rfl
    refine ⟨e, ?_⟩
    rw [lr, e]
    rcases Nat.lt_or_ge a b with q | q
    · have ih := rn_none p a b q (fun w h1 h2 => hw w h1 (by omega))
      rw [ih.2]; omega
    · rw [show a = b by omega]; omega
theorem mx_piece {F : Nat → Int} {P : Nat} {s : Nat → Nat} {G : Nat → Int} (hPc : Pc F P s G) {p : Nat} (hp : p < P) : ∀ n, s p + n < s (p + 1) → (0 ≤ G p → mxF F (s p + n) = max (mxF F (s p - 1)) (F (s p + n))) ∧ (G p ≤ 0 → mxF F (s p + n) = max (mxF F (s p - 1)) (F (s p)))
  | 0, h => by
    have e : mxF F (s p + 0) = max (mxF F (s p - 1)) (F (s p)) := by
      rcases Nat.eq_zero_or_pos (s p) with q | q
      · rw [q]; simp only [mxF, Nat.add_zero, Nat.zero_sub]; omega
      · rw [Nat.add_zero]
        conv => lhs; rw [show s p = (s p - 1) + 1 by omega]
        rw [mxF, show s p - 1 + 1 = s p by omega]
    exact ⟨fun _ => e, fun _ => e⟩
  | n + 1, h => by
    have ih := mx_piece hPc hp n (by omega)
    have st := hPc.lin2 hp (show s p ≤ s p + n by omega) (show s p + n ≤ s p + (n + 1) by omega) h
    rw [show ((s p + (n + 1) : Nat) : Int) - ((s p + n : Nat) : Int) = 1 by omega, Int.one_mul] at st
    have lo := hPc.lin2 hp (show s p ≤ s p by omega) (show s p ≤ s p + (n + 1) by omega) h
    have e : mxF F (s p + (n + 1)) = max (mxF F (s p + n)) (F (s p + (n + 1))) := rfl
    refine ⟨fun q => ?_, fun q => ?_⟩
    · rw [e, ih.1 q]; omega
    · have := Int.mul_nonpos_of_nonneg_of_nonpos (show 0 ≤ ((s p + (n + 1) : Nat) : Int) - s p by omega) q
      rw [e, ih.2 q]; omega
/-- which wages of a piece are trapped, by how many of its first ones are below the most ahead -/
theorem trap_piece {F : Nat → Int} {P : Nat} {s : Nat → Nat} {G : Nat → Int} (hPc : Pc F P s G) {p n : Nat} (hp : p < P) (hn : s p + n ≤ s (p + 1)) (h1 : ∀ w, s p ≤ w → w < s p + n → F w < mxF F (s p - 1)) (h2 : s p + n < s (p + 1) → mxF F (s p - 1) ≤ F (s p + n)) :
    ∀ w, s p ≤ w → w < s (p + 1) → (trB F w = true ↔ (w < s p + n ∨ (n = 0 ∧ G p < 0 ∧ s p < w))) := by
  intro w a b
  have hm := hPc.2.2.2.2.1 p hp
  have mx := mx_piece hPc hp (w - s p) (by omega)
  rw [show s p + (w - s p) = w by omega] at mx
  have lin := hPc.2.2.2.2.2.1 p hp w a b
  simp only [trB, decide_eq_true_eq]
  rcases Int.lt_or_le (G p) 0 with q | q
  · rw [mx.2 (by omega)]
    have neg : s p < w → F w < F (s p) := fun z => by
      have := Int.mul_neg_of_pos_of_neg (show 0 < (w : Int) - s p by omega) q
      omega
    rcases Nat.eq_zero_or_pos n with e | e
    · have h2 := h2 (by omega)
      rw [e, Nat.add_zero] at h2
      constructor
      · intro z; right; refine ⟨e, q, ?_⟩
        rcases Nat.lt_or_ge (s p) w with y | y
        · exact y
        · rw [show w = s p by omega] at z; omega
      · rintro (z | ⟨_, _, z⟩)
        · omega
        · have := neg z; omega
    · have hs := h1 (s p) (by omega) (by omega)
      have hne : s p + n = s (p + 1) := by
        rcases Nat.lt_or_ge (s p + n) (s (p + 1)) with y | y
        · have a1 := h2 y
          have a2 := hPc.2.2.2.2.2.1 p hp (s p + n) (by omega) y
          have a3 := Int.mul_neg_of_pos_of_neg (show 0 < ((s p + n : Nat) : Int) - s p by omega) q
          omega
        · omega
      constructor
      · intro z; left; omega
      · intro z
        have := h1 w a (by omega)
        omega
  · rw [mx.1 q]
    constructor
    · intro z; left
      apply Nat.not_le.mp
      intro y
      have a1 := h2 (by omega)
      have a2 := hPc.lin2 hp (show s p ≤ s p + n by omega) y b
      have a3 := Int.mul_nonneg (show 0 ≤ (w : Int) - ((s p + n : Nat) : Int) by omega) q
      omega
    · rintro (z | ⟨_, z, _⟩)
      · have := h1 w a z; omega
      · omega
section Line6
variable {K : Kx} {N : Nm} {g : Ge} {i : Nat} {F : Nat → Int} {P : Nat} {s : Nat → Nat} {G : Nat → Int}
theorem c_lowAtFirst {p : Nat} {M : Int} {Pq : Int → Nm → Ge → Prop} (hL : Ln N g i F P s G) (hp : p < P) (hM : rL M) (hq : ∀ n : Nat, s p + n ≤ s (p + 1) → (∀ w, s p ≤ w → w < s p + n → F w < M) → (s p + n < s (p + 1) → M ≤ F (s p + n)) → Pq n N g) : Ck K YX1_lowAtFirst hX1_lowAtFirst [vr 12 i, vi p, vl M] N g (qI Pq) := by
  have hL0 := hL
  obtain ⟨hN0, hrow, hseat, hroom, hB, hPc⟩ := hL
  have hP2 := hPc.2.1
  have hm := hPc.2.2.2.2.1 p hp
  have ht := hPc.top (show p + 1 ≤ P by omega)
  have hG := hPc.2.2.2.2.2.2 p hp
  have hb1 := hB (s p) (by omega)
  have hb2 := hB (s (p + 1) - 1) (by omega)
  have hll := hPc.2.2.2.2.2.1 p hp (s (p + 1) - 1) (by omega) (by omega)
  refine Ck.intro 1 (by decide) rfl ?_
  show AW _ _ _ _ _ [some (vr 12 i), some (vi p), some (vl M), none, none] _ _ _
  refine ld_a0 iX1_lowAtFirst_0 ?_
  refine gf_X1_values kFX1_19 iX1_lowAtFirst_1 ?_
  refine ld_i1 iX1_lowAtFirst_4 ?_
  refine al_14 rfl (by omega) (by omega) iX1_lowAtFirst_5 ?_
  rw [(hrow p hp).2.1]
  refine ld_a0 iX1_lowAtFirst_6 ?_
  refine gf_X1_gains kFX1_23 iX1_lowAtFirst_7 ?_
  refine ld_i1 iX1_lowAtFirst_10 ?_
  refine al_15 rfl (by omega) (by omega) iX1_lowAtFirst_11 ?_
  rw [(hrow p hp).2.2]
  refine ld_a0 iX1_lowAtFirst_12 ?_
  refine ld_i1 iX1_lowAtFirst_13 ?_
  refine xX1_further kMX1_91 iX1_lowAtFirst_14 (by decide) (Nat.le_of_ble_eq_true rfl) rfl rfl ?_
  refine c_further hL0 hp ?_
  rw [show (s (p + 1) : Int) - 1 - s p = ((s (p + 1) - 1 - s p : Nat) : Int) by omega]
  refine ld_l2 iX1_lowAtFirst_17 ?_
  refine xX7_firstNoLess kMX1_100 iX1_lowAtFirst_18 (by decide) (Nat.le_of_ble_eq_true rfl) rfl rfl ?_
  refine c_firstNoLess (by omega) hb1 hG (by rw [show ((s (p + 1) - 1 - s p : Nat) : Int) = ((s (p + 1) - 1 : Nat) : Int) - s p by omega, ← hll]; exact hb2) hM (fun r hr => ?_)
  have hr := fst_shift hPc hp (Nat.le_refl _) hm hr
  have hrb : -1 ≤ r ∧ r ≤ 20000 := by rcases hr with ⟨q, _⟩ | ⟨w, q, _⟩ <;> omega
  refine sv_i4 (by decide) rfl iX1_lowAtFirst_21 ?_
  refine ld_i4 iX1_lowAtFirst_23 ?_
  refine r_iconst iX1_lowAtFirst_25 ?_
  refine r_icmpne iX1_lowAtFirst_26 (by omega) (by omega) (fun h26 => ?_) (fun h26 => ?_)
  · refine ld_i4 iX1_lowAtFirst_39 ?_
    refine t_int rfl iX1_lowAtFirst_41 ?_
    rcases hr with ⟨q, q1⟩ | ⟨w, q1, q2, q3, q4, q5, q6⟩
    · first
        | exact absurd q h26
        | exact pz (hq (s (p + 1) - s p) (by omega) (fun w z1 z2 => Int.not_le.mp (q1 w z1 (by omega))) (fun z => by omega)) (by omega)
    · first
        | exact absurd h26 (by omega)
        | exact pz (hq (w - s p) (by omega) (fun u z1 z2 => Int.not_le.mp (q6 u z1 (by omega))) (fun z => by rw [show s p + (w - s p) = w by omega]; exact q5)) (by omega)
  · refine ld_a0 iX1_lowAtFirst_29 ?_
    refine ld_i1 iX1_lowAtFirst_30 ?_
    refine xX1_further kMX1_91 iX1_lowAtFirst_31 (by decide) (Nat.le_of_ble_eq_true rfl) rfl rfl ?_
    refine c_further hL0 hp ?_
    refine r_iconst iX1_lowAtFirst_34 ?_
    refine r_iadd iX1_lowAtFirst_35 ?_
    refine r_goto iX1_lowAtFirst_36 ?_
    refine t_int rfl iX1_lowAtFirst_41 ?_
    rcases hr with ⟨q, q1⟩ | ⟨w, q1, q2, q3, q4, q5, q6⟩
    · first
        | exact absurd q h26
        | exact pz (hq (s (p + 1) - s p) (by omega) (fun w z1 z2 => Int.not_le.mp (q1 w z1 (by omega))) (fun z => by omega)) (by omega)
    · first
        | exact absurd h26 (by omega)
        | exact pz (hq (w - s p) (by omega) (fun u z1 z2 => Int.not_le.mp (q6 u z1 (by omega))) (fun z => by rw [show s p + (w - s p) = w by omega]; exact q5)) (by omega)
theorem mxF_bd {F : Nat → Int} (hB : ∀ w, w < 10000 → bF (F w)) {n : Nat} (hn : n < 10000) : bF (mxF F n) := by
  obtain ⟨u, h1, h2⟩ := mxF_at F n
  rw [h2]; exact hB u (by omega)
theorem mx_next (hPc : Pc F P s G) {p : Nat} (hp : p < P) : mxF F (s (p + 1) - 1) = max (mxF F (s p - 1)) (max (F (s p)) (F (s (p + 1) - 1))) := by
  have hm := hPc.2.2.2.2.1 p hp
  have mx := mx_piece hPc hp (s (p + 1) - 1 - s p) (by omega)
  rw [show s p + (s (p + 1) - 1 - s p) = s (p + 1) - 1 by omega] at mx
  have hll := hPc.2.2.2.2.2.1 p hp (s (p + 1) - 1) (by omega) (by omega)
  rcases Int.le_total 0 (G p) with q | q
  · have := Int.mul_nonneg (show 0 ≤ ((s (p + 1) - 1 : Nat) : Int) - s p by omega) q
    rw [mx.1 q]; omega
  · have := Int.mul_nonpos_of_nonneg_of_nonpos (show 0 ≤ ((s (p + 1) - 1 : Nat) : Int) - s p by omega) q
    rw [mx.2 q]; omega
theorem c_trappedWages {Pq : Int → Nm → Ge → Prop} (hL : Ln N g i F P s G) (hq : Pq (ct (trB F) 10000) N g) : Ck K YX1_trappedWages hX1_trappedWages [vr 12 i] N g (qI Pq) := by
  have hL0 := hL
  obtain ⟨hN0, hrow, hseat, hroom, hB, hPc⟩ := hL
  have hP1 := hPc.1
  have hP2 := hPc.2.1
  refine Ck.intro 5 (by decide) rfl ?_
  show AW _ _ _ _ _ [some (vr 12 i), none, none, none, none, none] _ _ _
  have loop : ∀ (n p : Nat) (a M b : Int), P - p = n → p ≤ P → b = p → a = ct (trB F) (s p) → M = mxF F (s p - 1) → AW K YX1_trappedWages hX1_trappedWages (qI Pq) 12 [some (vr 12 i), some (vi a), some (vl M), none, some (vi b), none] [] N g := by
    intro n
    induction n using Nat.strongRecOn with
    | _ n ih =>
      intro p a M b e hp hb ha hM
      subst hb
      have hst := hPc.top hp
      have hMb := mxF_bd hB (show s p - 1 < 10000 by omega)
      rw [← hM] at hMb
      refine ld_i4 iX1_trappedWages_12 ?_
      refine ld_a0 iX1_trappedWages_14 ?_
      refine gf_X1_pieces kFX1_9 iX1_trappedWages_15 ?_
      refine r_icmpge iX1_trappedWages_18 (by omega) (by omega) (fun h18 => ?_) (fun h18 => ?_)
      · refine ld_i1 iX1_trappedWages_88 ?_
        refine t_int rfl iX1_trappedWages_89 ?_
        have e : p = P := by omega
        rw [e, hPc.2.2.2.1] at ha; rw [ha]; exact hq
      · have hp1 : p < P := by omega
        have hm := hPc.2.2.2.2.1 p hp1
        have ht := hPc.top (show p + 1 ≤ P by omega)
        have hG := hPc.2.2.2.2.2.2 p hp1
        have hb1 := hB (s p) (by omega)
        have hb2 := hB (s (p + 1) - 1) (by omega)
        have hnx := mx_next hPc hp1
        refine ld_a0 iX1_trappedWages_21 ?_
        refine ld_i4 iX1_trappedWages_22 ?_
        refine ld_l2 iX1_trappedWages_24 ?_
        refine xX1_lowAtFirst kMX1_135 iX1_trappedWages_25 (by decide) (Nat.le_of_ble_eq_true rfl) rfl rfl ?_
        refine c_lowAtFirst hL0 hp1 (by omega) (fun m g1 g2 g3 => ?_)
        rw [hM] at g2 g3
        have tp := trap_piece hPc hp1 g1 g2 g3
        clear g2 g3
        refine sv_i5 (by decide) rfl iX1_trappedWages_28 ?_
        refine ld_i1 iX1_trappedWages_30 ?_
        refine ld_i5 iX1_trappedWages_31 ?_
        refine r_ifne iX1_trappedWages_33 (by omega) (fun h33 => ?_) (fun h33 => ?_)
        · have hcn : ct (trB F) (s (p + 1)) = ct (trB F) (s p) + m := by
            rw [ct_none _ (s p + m) (s (p + 1)) (by omega) (fun w z1 z2 => by have y := tp w (by omega) z2; cases hh : trB F w; rfl; have := y.mp hh; omega), ct_all _ (s p) (s p + m) (by omega) (fun w z1 z2 => (tp w z1 (by omega)).mpr (by omega))]; omega
          refine ld_i5 iX1_trappedWages_57 ?_
          refine r_iadd iX1_trappedWages_59 ?_
          refine sv_i1 (by decide) rfl iX1_trappedWages_60 ?_
          refine ld_l2 iX1_trappedWages_61 ?_
          refine ld_a0 iX1_trappedWages_62 ?_
          refine gf_X1_values kFX1_19 iX1_trappedWages_63 ?_
          refine ld_i4 iX1_trappedWages_66 ?_
          refine al_14 rfl (by omega) (by omega) iX1_trappedWages_68 ?_
          rw [(hrow p hp1).2.1]
          refine ld_a0 iX1_trappedWages_69 ?_
          refine ld_i4 iX1_trappedWages_70 ?_
          refine xX1_lastValue kMX1_78 iX1_trappedWages_72 (by decide) (Nat.le_of_ble_eq_true rfl) rfl rfl ?_
          refine c_lastValue hL0 hp1 ?_
          refine xJ9_max_f86c9 kMX1_88 iX1_trappedWages_75 (by decide) (Nat.le_of_ble_eq_true rfl) rfl rfl ?_
          refine c_maxL (by omega) (by omega) ?_
          refine xJ9_max_f86c9 kMX1_88 iX1_trappedWages_78 (by decide) (Nat.le_of_ble_eq_true rfl) rfl rfl ?_
          refine c_maxL (by omega) (by omega) ?_
          refine sv_l2 (by decide) rfl iX1_trappedWages_81 ?_
          refine inc_4 (by decide) rfl iX1_trappedWages_82 ?_
          refine r_goto iX1_trappedWages_85 ?_
          refine fg_5 ?_
          exact ih (P - (p + 1)) (by omega) (p + 1) _ _ _ rfl (by omega) (by omega) (by omega) (by rw [hnx, hM])
        · refine ld_a0 iX1_trappedWages_36 ?_
          refine gf_X1_gains kFX1_23 iX1_trappedWages_37 ?_
          refine ld_i4 iX1_trappedWages_40 ?_
          refine al_15 rfl (by omega) (by omega) iX1_trappedWages_42 ?_
          rw [(hrow p hp1).2.2]
          refine r_lconst (v := 0) (by decide) iX1_trappedWages_43 ?_
          refine r_lcge iX1_trappedWages_44 iX1_trappedWages_45 (by omega) (by omega) (fun h44 => ?_) (fun h44 => ?_)
          · have hcn : ct (trB F) (s (p + 1)) = ct (trB F) (s p) + m := by
              rw [ct_none _ (s p + m) (s (p + 1)) (by omega) (fun w z1 z2 => by have y := tp w (by omega) z2; cases hh : trB F w; rfl; have := y.mp hh; omega), ct_all _ (s p) (s p + m) (by omega) (fun w z1 z2 => (tp w z1 (by omega)).mpr (by omega))]; omega
            refine ld_i5 iX1_trappedWages_57 ?_
            refine r_iadd iX1_trappedWages_59 ?_
            refine sv_i1 (by decide) rfl iX1_trappedWages_60 ?_
            refine ld_l2 iX1_trappedWages_61 ?_
            refine ld_a0 iX1_trappedWages_62 ?_
            refine gf_X1_values kFX1_19 iX1_trappedWages_63 ?_
            refine ld_i4 iX1_trappedWages_66 ?_
            refine al_14 rfl (by omega) (by omega) iX1_trappedWages_68 ?_
            rw [(hrow p hp1).2.1]
            refine ld_a0 iX1_trappedWages_69 ?_
            refine ld_i4 iX1_trappedWages_70 ?_
            refine xX1_lastValue kMX1_78 iX1_trappedWages_72 (by decide) (Nat.le_of_ble_eq_true rfl) rfl rfl ?_
            refine c_lastValue hL0 hp1 ?_
            refine xJ9_max_f86c9 kMX1_88 iX1_trappedWages_75 (by decide) (Nat.le_of_ble_eq_true rfl) rfl rfl ?_
            refine c_maxL (by omega) (by omega) ?_
            refine xJ9_max_f86c9 kMX1_88 iX1_trappedWages_78 (by decide) (Nat.le_of_ble_eq_true rfl) rfl rfl ?_
            refine c_maxL (by omega) (by omega) ?_
            refine sv_l2 (by decide) rfl iX1_trappedWages_81 ?_
            refine inc_4 (by decide) rfl iX1_trappedWages_82 ?_
            refine r_goto iX1_trappedWages_85 ?_
            refine fg_5 ?_
            exact ih (P - (p + 1)) (by omega) (p + 1) _ _ _ rfl (by omega) (by omega) (by omega) (by rw [hnx, hM])
          · have hcn : ct (trB F) (s (p + 1)) = ct (trB F) (s p) + (s (p + 1) - 1 - s p) := by
              have e1 : ct (trB F) (s p + 1) = ct (trB F) (s p) := by
                rw [ct, if_neg]; rfl
                intro z; have := (tp (s p) (by omega) (by omega)).mp z; omega
              rw [ct_all _ (s p + 1) (s (p + 1)) (by omega) (fun w z1 z2 => (tp w (by omega) z2).mpr (by omega)), e1]; omega
            refine ld_a0 iX1_trappedWages_48 ?_
            refine ld_i4 iX1_trappedWages_49 ?_
            refine xX1_further kMX1_91 iX1_trappedWages_51 (by decide) (Nat.le_of_ble_eq_true rfl) rfl rfl ?_
            refine c_further hL0 hp1 ?_
            refine r_goto iX1_trappedWages_54 ?_
            refine r_iadd iX1_trappedWages_59 ?_
            refine sv_i1 (by decide) rfl iX1_trappedWages_60 ?_
            refine ld_l2 iX1_trappedWages_61 ?_
            refine ld_a0 iX1_trappedWages_62 ?_
            refine gf_X1_values kFX1_19 iX1_trappedWages_63 ?_
            refine ld_i4 iX1_trappedWages_66 ?_
            refine al_14 rfl (by omega) (by omega) iX1_trappedWages_68 ?_
            rw [(hrow p hp1).2.1]
            refine ld_a0 iX1_trappedWages_69 ?_
            refine ld_i4 iX1_trappedWages_70 ?_
            refine xX1_lastValue kMX1_78 iX1_trappedWages_72 (by decide) (Nat.le_of_ble_eq_true rfl) rfl rfl ?_
            refine c_lastValue hL0 hp1 ?_
            refine xJ9_max_f86c9 kMX1_88 iX1_trappedWages_75 (by decide) (Nat.le_of_ble_eq_true rfl) rfl rfl ?_
            refine c_maxL (by omega) (by omega) ?_
            refine xJ9_max_f86c9 kMX1_88 iX1_trappedWages_78 (by decide) (Nat.le_of_ble_eq_true rfl) rfl rfl ?_
            refine c_maxL (by omega) (by omega) ?_
            refine sv_l2 (by decide) rfl iX1_trappedWages_81 ?_
            refine inc_4 (by decide) rfl iX1_trappedWages_82 ?_
            refine r_goto iX1_trappedWages_85 ?_
            refine fg_5 ?_
            exact ih (P - (p + 1)) (by omega) (p + 1) _ _ _ rfl (by omega) (by omega) (by omega) (by rw [hnx, hM])
  refine r_iconst iX1_trappedWages_0 ?_
  refine sv_i1 (by decide) rfl iX1_trappedWages_1 ?_
  refine ld_a0 iX1_trappedWages_2 ?_
  refine gf_X1_values kFX1_19 iX1_trappedWages_3 ?_
  refine r_iconst iX1_trappedWages_6 ?_
  refine al_14 (n := 0) (by omega) (by omega) (by omega) iX1_trappedWages_7 ?_
  rw [(hrow 0 hP1).2.1, hPc.2.2.1]
  refine sv_l2 (by decide) rfl iX1_trappedWages_8 ?_
  refine r_iconst iX1_trappedWages_9 ?_
  refine sv_i4 (by decide) rfl iX1_trappedWages_10 ?_
  exact loop P 0 _ _ _ (by omega) (by omega) (by omega) (by rw [hPc.2.2.1]; rfl) (by rw [hPc.2.2.1]; rfl)
theorem c_longestTrap {Pq : Int → Nm → Ge → Prop} (hL : Ln N g i F P s G) (hq : Pq (lr (trB F) 10000) N g) : Ck K YX1_longestTrap hX1_longestTrap [vr 12 i] N g (qI Pq) := by
  have hL0 := hL
  obtain ⟨hN0, hrow, hseat, hroom, hB, hPc⟩ := hL
  have hP1 := hPc.1
  have hP2 := hPc.2.1
  refine Ck.intro 6 (by decide) rfl ?_
  show AW _ _ _ _ _ [some (vr 12 i), none, none, none, none, none, none] _ _ _
  have loop : ∀ (n p : Nat) (a c M b : Int), P - p = n → p ≤ P → b = p → a = lr (trB F) (s p) → c = rn (trB F) (s p) → M = mxF F (s p - 1) → AW K YX1_longestTrap hX1_longestTrap (qI Pq) 14 [some (vr 12 i), some (vi a), some (vi c), some (vl M), none, some (vi b), none] [] N g := by
    intro n
    induction n using Nat.strongRecOn with
    | _ n ih =>
      intro p a c M b e hp hb ha hc hM
      subst hb
      have hst := hPc.top hp
      have hMb := mxF_bd hB (show s p - 1 < 10000 by omega)
      have hrl := rn_le (trB F) (s p)
      rw [← hM] at hMb
      refine ld_i5 iX1_longestTrap_14 ?_
      refine ld_a0 iX1_longestTrap_16 ?_
      refine gf_X1_pieces kFX1_9 iX1_longestTrap_17 ?_
      refine r_icmpge iX1_longestTrap_20 (by omega) (by omega) (fun h20 => ?_) (fun h20 => ?_)
      · refine ld_i1 iX1_longestTrap_110 ?_
        refine t_int rfl iX1_longestTrap_111 ?_
        have e : p = P := by omega
        rw [e, hPc.2.2.2.1] at ha; rw [ha]; exact hq
      · have hp1 : p < P := by omega
        have hm := hPc.2.2.2.2.1 p hp1
        have ht := hPc.top (show p + 1 ≤ P by omega)
        have hG := hPc.2.2.2.2.2.2 p hp1
        have hb1 := hB (s p) (by omega)
        have hb2 := hB (s (p + 1) - 1) (by omega)
        have hnx := mx_next hPc hp1
        refine ld_a0 iX1_longestTrap_23 ?_
        refine ld_i5 iX1_longestTrap_24 ?_
        refine ld_l3 iX1_longestTrap_26 ?_
        refine xX1_lowAtFirst kMX1_135 iX1_longestTrap_27 (by decide) (Nat.le_of_ble_eq_true rfl) rfl rfl ?_
        refine c_lowAtFirst hL0 hp1 (by omega) (fun m g1 g2 g3 => ?_)
        rw [hM] at g2 g3
        have tp := trap_piece hPc hp1 g1 g2 g3
        have gm : 0 < m → s p + m < s (p + 1) → 0 ≤ G p := fun z1 z2 => by
          have y1 := g2 (s p) (by omega) (by omega)
          have y2 := g3 z2
          have y3 := hPc.2.2.2.2.2.1 p hp1 (s p + m) (by omega) z2
          apply Int.not_lt.mp; intro y4
          have y5 := Int.mul_neg_of_pos_of_neg (show 0 < ((s p + m : Nat) : Int) - s p by omega) y4
          omega
        clear g2 g3
        have r1 := rn_all (trB F) (s p) (s p + m) (by omega) (fun w z1 z2 => (tp w z1 (by omega)).mpr (by omega))
        refine sv_i6 (by decide) rfl iX1_longestTrap_30 ?_
        refine ld_i2 iX1_longestTrap_32 ?_
        refine ld_i6 iX1_longestTrap_33 ?_
        refine r_iadd iX1_longestTrap_35 ?_
        refine sv_i2 (by decide) rfl iX1_longestTrap_36 ?_
        refine ld_i1 iX1_longestTrap_37 ?_
        refine ld_i2 iX1_longestTrap_38 ?_
        refine xJ9_max_7cf53 kMX1_98 iX1_longestTrap_39 (by decide) (Nat.le_of_ble_eq_true rfl) rfl rfl ?_
        refine c_maxI (by omega) (by omega) ?_
        refine sv_i1 (by decide) rfl iX1_longestTrap_42 ?_
        refine ld_i6 iX1_longestTrap_43 ?_
        refine ld_a0 iX1_longestTrap_45 ?_
        refine ld_i5 iX1_longestTrap_46 ?_
        refine xX1_further kMX1_91 iX1_longestTrap_48 (by decide) (Nat.le_of_ble_eq_true rfl) rfl rfl ?_
        refine c_further hL0 hp1 ?_
        refine r_icmpgt iX1_longestTrap_51 (by omega) (by omega) (fun h51 => ?_) (fun h51 => ?_)
        · have r4 : s p + m = s (p + 1) := by omega
          rw [r4] at r1
          refine ld_l3 iX1_longestTrap_83 ?_
          refine ld_a0 iX1_longestTrap_84 ?_
          refine gf_X1_values kFX1_19 iX1_longestTrap_85 ?_
          refine ld_i5 iX1_longestTrap_88 ?_
          refine al_14 rfl (by omega) (by omega) iX1_longestTrap_90 ?_
          rw [(hrow p hp1).2.1]
          refine ld_a0 iX1_longestTrap_91 ?_
          refine ld_i5 iX1_longestTrap_92 ?_
          refine xX1_lastValue kMX1_78 iX1_longestTrap_94 (by decide) (Nat.le_of_ble_eq_true rfl) rfl rfl ?_
          refine c_lastValue hL0 hp1 ?_
          refine xJ9_max_f86c9 kMX1_88 iX1_longestTrap_97 (by decide) (Nat.le_of_ble_eq_true rfl) rfl rfl ?_
          refine c_maxL (by omega) (by omega) ?_
          refine xJ9_max_f86c9 kMX1_88 iX1_longestTrap_100 (by decide) (Nat.le_of_ble_eq_true rfl) rfl rfl ?_
          refine c_maxL (by omega) (by omega) ?_
          refine sv_l3 (by decide) rfl iX1_longestTrap_103 ?_
          refine inc_5 (by decide) rfl iX1_longestTrap_104 ?_
          refine r_goto iX1_longestTrap_107 ?_
          refine fg_6 ?_
          exact ih (P - (p + 1)) (by omega) (p + 1) _ _ _ _ rfl (by omega) (by omega) (by omega) (by omega) (by rw [hnx, hM])
        · refine ld_a0 iX1_longestTrap_54 ?_
          refine gf_X1_gains kFX1_23 iX1_longestTrap_55 ?_
          refine ld_i5 iX1_longestTrap_58 ?_
          refine al_15 rfl (by omega) (by omega) iX1_longestTrap_60 ?_
          rw [(hrow p hp1).2.2]
          refine r_lconst (v := 0) (by decide) iX1_longestTrap_61 ?_
          refine r_lcge iX1_longestTrap_62 iX1_longestTrap_63 (by omega) (by omega) (fun h62 => ?_) (fun h62 => ?_)
          · have r2 := rn_none (trB F) (s p + m) (s (p + 1)) (by omega) (fun w z1 z2 => by have y := tp w (by omega) (by omega); cases hh : trB F w; rfl; have := y.mp hh; omega)
            refine r_iconst iX1_longestTrap_75 ?_
            refine sv_i2 (by decide) rfl iX1_longestTrap_76 ?_
            refine ld_i1 iX1_longestTrap_77 ?_
            refine ld_i2 iX1_longestTrap_78 ?_
            refine xJ9_max_7cf53 kMX1_98 iX1_longestTrap_79 (by decide) (Nat.le_of_ble_eq_true rfl) rfl rfl ?_
            refine c_maxI (by omega) (by omega) ?_
            refine sv_i1 (by decide) rfl iX1_longestTrap_82 ?_
            refine ld_l3 iX1_longestTrap_83 ?_
            refine ld_a0 iX1_longestTrap_84 ?_
            refine gf_X1_values kFX1_19 iX1_longestTrap_85 ?_
            refine ld_i5 iX1_longestTrap_88 ?_
            refine al_14 rfl (by omega) (by omega) iX1_longestTrap_90 ?_
            rw [(hrow p hp1).2.1]
            refine ld_a0 iX1_longestTrap_91 ?_
            refine ld_i5 iX1_longestTrap_92 ?_
            refine xX1_lastValue kMX1_78 iX1_longestTrap_94 (by decide) (Nat.le_of_ble_eq_true rfl) rfl rfl ?_
            refine c_lastValue hL0 hp1 ?_
            refine xJ9_max_f86c9 kMX1_88 iX1_longestTrap_97 (by decide) (Nat.le_of_ble_eq_true rfl) rfl rfl ?_
            refine c_maxL (by omega) (by omega) ?_
            refine xJ9_max_f86c9 kMX1_88 iX1_longestTrap_100 (by decide) (Nat.le_of_ble_eq_true rfl) rfl rfl ?_
            refine c_maxL (by omega) (by omega) ?_
            refine sv_l3 (by decide) rfl iX1_longestTrap_103 ?_
            refine inc_5 (by decide) rfl iX1_longestTrap_104 ?_
            refine r_goto iX1_longestTrap_107 ?_
            refine fg_6 ?_
            exact ih (P - (p + 1)) (by omega) (p + 1) _ _ _ _ rfl (by omega) (by omega) (by omega) (by omega) (by rw [hnx, hM])
          · have hm0 : m = 0 := by
              apply Decidable.not_not.mp; intro z; have := gm (by omega) (by omega); omega
            have r2 := rn_none (trB F) (s p) (s p + 1) (by omega) (fun w z1 z2 => by have y := tp w (by omega) (by omega); cases hh : trB F w; rfl; have := y.mp hh; omega)
            have r3 := rn_all (trB F) (s p + 1) (s (p + 1)) (by omega) (fun w z1 z2 => (tp w (by omega) z2).mpr (by omega))
            refine ld_a0 iX1_longestTrap_66 ?_
            refine ld_i5 iX1_longestTrap_67 ?_
            refine xX1_further kMX1_91 iX1_longestTrap_69 (by decide) (Nat.le_of_ble_eq_true rfl) rfl rfl ?_
            refine c_further hL0 hp1 ?_
            refine r_goto iX1_longestTrap_72 ?_
            refine sv_i2 (by decide) rfl iX1_longestTrap_76 ?_
            refine ld_i1 iX1_longestTrap_77 ?_
            refine ld_i2 iX1_longestTrap_78 ?_
            refine xJ9_max_7cf53 kMX1_98 iX1_longestTrap_79 (by decide) (Nat.le_of_ble_eq_true rfl) rfl rfl ?_
            refine c_maxI (by omega) (by omega) ?_
            refine sv_i1 (by decide) rfl iX1_longestTrap_82 ?_
            refine ld_l3 iX1_longestTrap_83 ?_
            refine ld_a0 iX1_longestTrap_84 ?_
            refine gf_X1_values kFX1_19 iX1_longestTrap_85 ?_
            refine ld_i5 iX1_longestTrap_88 ?_
            refine al_14 rfl (by omega) (by omega) iX1_longestTrap_90 ?_
            rw [(hrow p hp1).2.1]
            refine ld_a0 iX1_longestTrap_91 ?_
            refine ld_i5 iX1_longestTrap_92 ?_
            refine xX1_lastValue kMX1_78 iX1_longestTrap_94 (by decide) (Nat.le_of_ble_eq_true rfl) rfl rfl ?_
            refine c_lastValue hL0 hp1 ?_
            refine xJ9_max_f86c9 kMX1_88 iX1_longestTrap_97 (by decide) (Nat.le_of_ble_eq_true rfl) rfl rfl ?_
            refine c_maxL (by omega) (by omega) ?_
            refine xJ9_max_f86c9 kMX1_88 iX1_longestTrap_100 (by decide) (Nat.le_of_ble_eq_true rfl) rfl rfl ?_
            refine c_maxL (by omega) (by omega) ?_
            refine sv_l3 (by decide) rfl iX1_longestTrap_103 ?_
            refine inc_5 (by decide) rfl iX1_longestTrap_104 ?_
            refine r_goto iX1_longestTrap_107 ?_
            refine fg_6 ?_
            exact ih (P - (p + 1)) (by omega) (p + 1) _ _ _ _ rfl (by omega) (by omega) (by omega) (by omega) (by rw [hnx, hM])
  refine r_iconst iX1_longestTrap_0 ?_
  refine sv_i1 (by decide) rfl iX1_longestTrap_1 ?_
  refine r_iconst iX1_longestTrap_2 ?_
  refine sv_i2 (by decide) rfl iX1_longestTrap_3 ?_
  refine ld_a0 iX1_longestTrap_4 ?_
  refine gf_X1_values kFX1_19 iX1_longestTrap_5 ?_
  refine r_iconst iX1_longestTrap_8 ?_
  refine al_14 (n := 0) (by omega) (by omega) (by omega) iX1_longestTrap_9 ?_
  rw [(hrow 0 hP1).2.1, hPc.2.2.1]
  refine sv_l3 (by decide) rfl iX1_longestTrap_10 ?_
  refine r_iconst iX1_longestTrap_11 ?_
  refine sv_i5 (by decide) rfl iX1_longestTrap_12 ?_
  exact loop P 0 _ _ _ _ (by omega) (by omega) (by omega) (by rw [hPc.2.2.1]; rfl) (by rw [hPc.2.2.1]; rfl) (by rw [hPc.2.2.1]; rfl)
end Line6
