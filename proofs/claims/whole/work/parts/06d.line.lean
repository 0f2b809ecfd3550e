/-! own text: more questions about a line -/
theorem lst_lin {E : Nat → Int} {a b : Nat} {H lim r : Int} (hab : a < b) (hlin : ∀ w, a ≤ w → w < b → E w = E a + ((w : Int) - a) * H) (hr : Lst (fun n => E a + (n : Int) * H ≤ lim) (b - 1 - a + 1) r) : (r = -1 ∧ ∀ w, a ≤ w → w < b → ¬ E w ≤ lim) ∨ ∃ w : Nat, (a : Int) + r = w ∧ 0 ≤ r ∧ a ≤ w ∧ w < b ∧ E w ≤ lim ∧ ∀ u, w < u → u < b → ¬ E u ≤ lim := by
  rcases hr with ⟨rfl, q⟩ | ⟨n, rfl, q2, q3, q4⟩
  · refine Or.inl ⟨rfl, fun w a1 a2 => ?_⟩
    rw [hlin w a1 a2]
    have this : ¬ E a + ((w - a : Nat) : Int) * H ≤ lim := q (w - a) (by omega)
    rw [show ((w - a : Nat) : Int) = (w : Int) - a by omega] at this
    exact this
  · refine Or.inr ⟨a + n, by omega, by omega, by omega, by omega, ?_, fun u a1 a2 => ?_⟩
    · rw [hlin (a + n) (by omega) (by omega), show ((a + n : Nat) : Int) - a = n by omega]; exact q3
    · rw [hlin u (by omega) a2]
      have this : ¬ E a + ((u - a : Nat) : Int) * H ≤ lim := q4 (u - a) (by omega) (by omega)
      rw [show ((u - a : Nat) : Int) = (u : Int) - a by omega] at this
      exact this
theorem amx_lin {E : Nat → Int} {a b : Nat} {H lim r : Int} (hab : a < b) (hlin : ∀ w, a ≤ w → w < b → E w = E a + ((w : Int) - a) * H) (hr : Amx (fun n => E a + (n : Int) * H) (fun n => E a + (n : Int) * H ≤ lim) (b - 1 - a + 1) r) : (r = -1 ∧ ∀ w, a ≤ w → w < b → ¬ E w ≤ lim) ∨ ∃ w : Nat, (a : Int) + r = w ∧ 0 ≤ r ∧ a ≤ w ∧ w < b ∧ E w ≤ lim ∧ E a + r * H = E w ∧ (∀ u, a ≤ u → u < b → E u ≤ lim → E u ≤ E w) ∧ ∀ u, a ≤ u → u < w → E u ≤ lim → E u < E w := by
  rcases hr with ⟨rfl, q⟩ | ⟨n, rfl, q2, q3, q4, q5⟩
  · refine Or.inl ⟨rfl, fun w a1 a2 => ?_⟩
    rw [hlin w a1 a2]
    have this : ¬ E a + ((w - a : Nat) : Int) * H ≤ lim := q (w - a) (by omega)
    rw [show ((w - a : Nat) : Int) = (w : Int) - a by omega] at this
    exact this
  · have hw : E (a + n) = E a + (n : Int) * H := by rw [hlin (a + n) (by omega) (by omega), show ((a + n : Nat) : Int) - a = n by omega]
    have key : ∀ u, a ≤ u → u < b → E u = E a + ((u - a : Nat) : Int) * H := fun u z1 z2 => by rw [hlin u z1 z2, show ((u - a : Nat) : Int) = (u : Int) - a by omega]
    refine Or.inr ⟨a + n, by omega, by omega, by omega, by omega, by rw [hw]; exact q3, hw.symm, fun u z1 z2 z3 => ?_, fun u z1 z2 z3 => ?_⟩
    · rw [hw, key u z1 z2]
      rw [key u z1 z2] at z3
      exact q4 (u - a) (by omega) z3
    · rw [hw, key u z1 (by omega)]
      rw [key u z1 (by omega)] at z3
      exact q5 (u - a) (by omega) z3
theorem amx_none {F : Nat → Int} {q : Nat → Prop} {m n : Nat} {a : Int} (h : Amx F q m a) (hmn : m ≤ n) (hno : ∀ w, m ≤ w → w < n → ¬ q w) : Amx F q n a := by
  rcases h with ⟨rfl, h⟩ | ⟨w, rfl, h2, h3, h4, h5⟩
  · exact Or.inl ⟨rfl, fun w z => by rcases Nat.lt_or_ge w m with y | y; exact h w y; exact hno w y z⟩
  · exact Or.inr ⟨w, rfl, by omega, h3, fun u z1 z2 => by rcases Nat.lt_or_ge u m with y | y; exact h4 u y z2; exact absurd z2 (hno u y z1), h5⟩
theorem amx_keep {F : Nat → Int} {q : Nat → Prop} {m n : Nat} {a : Int} (h : Amx F q m a) (hmn : m ≤ n) (ha : a ≠ -1) (hle : ∀ u : Nat, a = u → ∀ w, m ≤ w → w < n → q w → F w ≤ F u) : Amx F q n a := by
  rcases h with ⟨rfl, h⟩ | ⟨w, rfl, h2, h3, h4, h5⟩
  · exact absurd rfl ha
  · exact Or.inr ⟨w, rfl, by omega, h3, fun u z1 z2 => by rcases Nat.lt_or_ge u m with y | y; exact h4 u y z2; exact hle w rfl u y z1 z2, h5⟩
theorem amx_new {F : Nat → Int} {q : Nat → Prop} {m n w : Nat} {a : Int} (h : Amx F q m a) (h1 : m ≤ w) (h2 : w < n) (hw : q w) (hbet : ∀ u : Nat, a = u → F u < F w) (h3 : ∀ u, m ≤ u → u < n → q u → F u ≤ F w) (h4 : ∀ u, m ≤ u → u < w → q u → F u < F w) : Amx F q n w := by
  have old : ∀ u, u < m → q u → F u < F w := fun u z1 z2 => by
    rcases h with ⟨rfl, h⟩ | ⟨x, rfl, g2, g3, g4, g5⟩
    · exact absurd z2 (h u z1)
    · have a1 := g4 u z1 z2
      have a2 := hbet x rfl
      omega
  exact Or.inr ⟨w, rfl, h2, hw, fun u z1 z2 => by rcases Nat.lt_or_ge u m with y | y; exact Int.le_of_lt (old u y z2); exact h3 u y z1 z2, fun u z1 z2 => by rcases Nat.lt_or_ge u m with y | y; exact old u y z2; exact h4 u y z1 z2⟩
def clB (F : Nat → Int) (w : Nat) : Bool := decide (0 < w ∧ F w < F (w - 1))
theorem cliffs_eq {F : Nat → Int} {P : Nat} {s : Nat → Nat} {G : Nat → Int} (hPc : Pc F P s G) {p : Nat} (hp : p < P) : ct (clB F) (s (p + 1)) = ct (clB F) (s p) + (if clB F (s p) then 1 else 0) + (if G p < 0 then s (p + 1) - 1 - s p else 0) := by
  have hm := hPc.2.2.2.2.1 p hp
  have e1 : ct (clB F) (s p + 1) = ct (clB F) (s p) + (if clB F (s p) then 1 else 0) := rfl
  rw [← e1]
  have hstep : ∀ w, s p + 1 ≤ w → w < s (p + 1) → F w = F (w - 1) + G p := fun w h1 h2 => by
    have := hPc.lin2 hp (show s p ≤ w - 1 by omega) (show w - 1 ≤ w by omega) h2
    rw [this, show (w : Int) - ((w - 1 : Nat) : Int) = 1 by omega, Int.one_mul]
  split
  · rw [ct_all _ (s p + 1) (s (p + 1)) (by omega) (fun w h1 h2 => by
      have := hstep w h1 h2
      simp only [clB, decide_eq_true_eq]
      omega)]
    omega
  · rw [ct_none _ (s p + 1) (s (p + 1)) (by omega) (fun w h1 h2 => by
      have := hstep w h1 h2
      simp only [clB, decide_eq_false_iff_not]
      omega)]
    omega
section Line7
variable {K : Kx} {N : Nm} {g : Ge} {i : Nat} {F : Nat → Int} {P : Nat} {s : Nat → Nat} {G : Nat → Int}
theorem c_greatestNoMore {v : Int} {Pq : Int → Nm → Ge → Prop} (hL : Ln N g i F P s G) (hv : rL v) (hq : ∀ r, Lst (fun w => F w ≤ v) 10000 r → Pq r N g) : Ck K YX1_greatestNoMore hX1_greatestNoMore [vr 12 i, vl v] N g (qI Pq) := by
  have hL0 := hL
  obtain ⟨hN0, hrow, hseat, hroom, hB, hPc⟩ := hL
  have hP2 := hPc.2.1
  refine Ck.intro 2 (by decide) rfl ?_
  show AW _ _ _ _ _ [some (vr 12 i), some (vl v), none, none, none] _ _ _
  have loop : ∀ (m : Nat) (b : Int), m ≤ P → b = (m : Int) - 1 → (∀ w, s m ≤ w → w < 10000 → ¬ F w ≤ v) → AW K YX1_greatestNoMore hX1_greatestNoMore (qI Pq) 7 [some (vr 12 i), some (vl v), none, some (vi b), none] [] N g := by
    intro m
    induction m with
    | zero =>
      intro b _ hb hno
      rw [hPc.2.2.1] at hno
      refine ld_i3 iX1_greatestNoMore_7 ?_
      refine r_iflt iX1_greatestNoMore_8 (by omega) (fun h8 => ?_) (fun h8 => ?_)
      · refine r_iconst iX1_greatestNoMore_56 ?_
        refine t_int rfl iX1_greatestNoMore_57 ?_
        exact hq _ (Or.inl ⟨rfl, fun w z => hno w (by omega) z⟩)
      · exfalso; omega
    | succ p ih =>
      intro b hp hb hno
      rw [show ((p + 1 : Nat) : Int) - 1 = p by omega] at hb
      subst hb
      have hp1 : p < P := by omega
      have hm := hPc.2.2.2.2.1 p hp1
      have ht := hPc.top (show p + 1 ≤ P by omega)
      have hG := hPc.2.2.2.2.2.2 p hp1
      have hb1 := hB (s p) (by omega)
      have hb2 := hB (s (p + 1) - 1) (by omega)
      have hll := hPc.2.2.2.2.2.1 p hp1 (s (p + 1) - 1) (by omega) (by omega)
      refine ld_i3 iX1_greatestNoMore_7 ?_
      refine r_iflt iX1_greatestNoMore_8 (by omega) (fun h8 => ?_) (fun h8 => ?_)
      · exfalso; omega
      · refine ld_a0 iX1_greatestNoMore_11 ?_
        refine gf_X1_values kFX1_19 iX1_greatestNoMore_12 ?_
        refine ld_i3 iX1_greatestNoMore_15 ?_
        refine al_14 rfl (by omega) (by omega) iX1_greatestNoMore_16 ?_
        rw [(hrow p hp1).2.1]
        refine ld_a0 iX1_greatestNoMore_17 ?_
        refine gf_X1_gains kFX1_23 iX1_greatestNoMore_18 ?_
        refine ld_i3 iX1_greatestNoMore_21 ?_
        refine al_15 rfl (by omega) (by omega) iX1_greatestNoMore_22 ?_
        rw [(hrow p hp1).2.2]
        refine ld_a0 iX1_greatestNoMore_23 ?_
        refine ld_i3 iX1_greatestNoMore_24 ?_
        refine xX1_further kMX1_91 iX1_greatestNoMore_25 (by decide) (Nat.le_of_ble_eq_true rfl) rfl rfl ?_
        refine c_further hL0 hp1 ?_
        rw [show (s (p + 1) : Int) - 1 - s p = ((s (p + 1) - 1 - s p : Nat) : Int) by omega]
        refine ld_l1 iX1_greatestNoMore_28 ?_
        refine xX7_lastNoMore kMX1_106 iX1_greatestNoMore_29 (by decide) (Nat.le_of_ble_eq_true rfl) rfl rfl ?_
        refine c_lastNoMore (by omega) (by omega) (by omega) (by rw [show ((s (p + 1) - 1 - s p : Nat) : Int) = ((s (p + 1) - 1 : Nat) : Int) - s p by omega, ← hll]; omega) hv (fun r hr => ?_)
        have hr := lst_lin hm (hPc.2.2.2.2.2.1 p hp1) hr
        have hrb : -1 ≤ r ∧ r ≤ 20000 := by rcases hr with ⟨q, _⟩ | ⟨w, q, _⟩ <;> omega
        refine sv_i4 (by decide) rfl iX1_greatestNoMore_32 ?_
        refine ld_i4 iX1_greatestNoMore_34 ?_
        refine r_iconst iX1_greatestNoMore_36 ?_
        refine r_icmpeq iX1_greatestNoMore_37 (by omega) (by omega) (fun h37 => ?_) (fun h37 => ?_)
        · have hr : ∀ w, s p ≤ w → w < s (p + 1) → ¬ F w ≤ v := by
            rcases hr with ⟨_, q⟩ | ⟨w, q1, q2, _⟩
            · exact q
            · omega
          refine inc_3 (by decide) rfl iX1_greatestNoMore_50 ?_
          refine r_goto iX1_greatestNoMore_53 ?_
          refine fg_4 ?_
          exact ih _ (by omega) (by omega) (fun w z1 z2 => by rcases Nat.lt_or_ge w (s (p + 1)) with z | z; exact hr w z1 z; exact hno w z z2)
        · refine ld_a0 iX1_greatestNoMore_40 ?_
          refine gf_X1_starts kFX1_15 iX1_greatestNoMore_41 ?_
          refine ld_i3 iX1_greatestNoMore_44 ?_
          refine al_13 rfl (by omega) (by omega) iX1_greatestNoMore_45 ?_
          rw [(hrow p hp1).1]
          refine ld_i4 iX1_greatestNoMore_46 ?_
          refine r_iadd iX1_greatestNoMore_48 ?_
          refine t_int rfl iX1_greatestNoMore_49 ?_
          rcases hr with ⟨q, _⟩ | ⟨w, q1, q2, q3, q4, q5, q6⟩
          · omega
          · rw [q1]; exact hq _ (Or.inr ⟨w, rfl, by omega, q5, fun u z1 z2 => by rcases Nat.lt_or_ge u (s (p + 1)) with z | z; exact q6 u z1 z; exact hno u z z2⟩)
  refine ld_a0 iX1_greatestNoMore_0 ?_
  refine gf_X1_pieces kFX1_9 iX1_greatestNoMore_1 ?_
  refine r_iconst iX1_greatestNoMore_4 ?_
  refine r_isub iX1_greatestNoMore_5 ?_
  refine sv_i3 (by decide) rfl iX1_greatestNoMore_6 ?_
  exact loop P _ (Nat.le_refl _) (by rw [hN0]) (fun w z1 z2 => by rw [hPc.2.2.2.1] at z1; omega)
theorem c_greatestKeptNoMore {th : Int} {Pq : Int → Nm → Ge → Prop} (hL : Ln N g i F P s G) (hth : 0 ≤ th ∧ th ≤ 1000) (hq : ∀ r, Lst (fun w => (w : Int) * (1000000000 - th * 1000000) - F w ≤ 0) 10000 r → Pq r N g) : Ck K YX1_greatestKeptNoMore hX1_greatestKeptNoMore [vr 12 i, vi th] N g (qI Pq) := by
  have hL0 := hL
  obtain ⟨hN0, hrow, hseat, hroom, hB, hPc⟩ := hL
  have hP2 := hPc.2.1
  refine Ck.intro 4 (by decide) rfl ?_
  show AW _ _ _ _ _ [some (vr 12 i), some (vi th), none, none, none, none] _ _ _
  obtain ⟨sh, hsh⟩ : ∃ sh, sh = 1000000000 - th * 1000000 := ⟨_, rfl⟩
  rw [← hsh] at hq
  have hwb : ∀ w : Nat, w < 10000 → 0 ≤ (w : Int) * sh ∧ (w : Int) * sh ≤ 10000000000000 := fun w hw => by
    have a := Int.mul_nonneg (show 0 ≤ (w : Int) by omega) (show 0 ≤ sh by omega)
    have b := Int.mul_le_mul (show (w : Int) ≤ 10000 by omega) (show sh ≤ 1000000000 by omega) (show 0 ≤ sh by omega) (by omega)
    omega
  have loop : ∀ (m : Nat) (b : Int), m ≤ P → b = (m : Int) - 1 → (∀ w, s m ≤ w → w < 10000 → ¬ (w : Int) * sh - F w ≤ 0) → AW K YX1_greatestKeptNoMore hX1_greatestKeptNoMore (qI Pq) 19 [some (vr 12 i), some (vi th), some (vl sh), none, some (vi b), none] [] N g := by
    intro m
    induction m with
    | zero =>
      intro b _ hb hno
      rw [hPc.2.2.1] at hno
      refine ld_i4 iX1_greatestKeptNoMore_19 ?_
      refine r_iflt iX1_greatestKeptNoMore_21 (by omega) (fun h21 => ?_) (fun h21 => ?_)
      · refine r_iconst iX1_greatestKeptNoMore_86 ?_
        refine t_int rfl iX1_greatestKeptNoMore_87 ?_
        exact hq _ (Or.inl ⟨rfl, fun w z => hno w (by omega) z⟩)
      · exfalso; omega
    | succ p ih =>
      intro b hp hb hno
      rw [show ((p + 1 : Nat) : Int) - 1 = p by omega] at hb
      subst hb
      have hp1 : p < P := by omega
      have hm := hPc.2.2.2.2.1 p hp1
      have ht := hPc.top (show p + 1 ≤ P by omega)
      have hG := hPc.2.2.2.2.2.2 p hp1
      have hb1 := hB (s p) (by omega)
      have hb2 := hB (s (p + 1) - 1) (by omega)
      have hw1 := hwb (s p) (by omega)
      have hw2 := hwb (s (p + 1) - 1) (by omega)
      have hlin : ∀ w, s p ≤ w → w < s (p + 1) → (fun w : Nat => (w : Int) * sh - F w) w = (fun w : Nat => (w : Int) * sh - F w) (s p) + ((w : Int) - s p) * (sh - G p) := fun w z1 z2 => by
        show (w : Int) * sh - F w = (s p : Int) * sh - F (s p) + ((w : Int) - s p) * (sh - G p)
        rw [hPc.2.2.2.2.2.1 p hp1 w z1 z2, Int.mul_sub, Int.sub_mul (w : Int) (s p : Int) sh]
        omega
      have hll := hlin (s (p + 1) - 1) (by omega) (by omega)
      simp only at hll
      refine ld_i4 iX1_greatestKeptNoMore_19 ?_
      refine r_iflt iX1_greatestKeptNoMore_21 (by omega) (fun h21 => ?_) (fun h21 => ?_)
      · exfalso; omega
      · refine ld_a0 iX1_greatestKeptNoMore_24 ?_
        refine gf_X1_starts kFX1_15 iX1_greatestKeptNoMore_25 ?_
        refine ld_i4 iX1_greatestKeptNoMore_28 ?_
        refine al_13 rfl (by omega) (by omega) iX1_greatestKeptNoMore_30 ?_
        rw [(hrow p hp1).1]
        refine r_i2l (by omega) iX1_greatestKeptNoMore_31 ?_
        refine ld_l2 iX1_greatestKeptNoMore_32 ?_
        refine r_lmul iX1_greatestKeptNoMore_33 ?_
        refine ld_a0 iX1_greatestKeptNoMore_34 ?_
        refine gf_X1_values kFX1_19 iX1_greatestKeptNoMore_35 ?_
        refine ld_i4 iX1_greatestKeptNoMore_38 ?_
        refine al_14 rfl (by omega) (by omega) iX1_greatestKeptNoMore_40 ?_
        rw [(hrow p hp1).2.1]
        refine r_lsub iX1_greatestKeptNoMore_41 ?_
        refine ld_l2 iX1_greatestKeptNoMore_42 ?_
        refine ld_a0 iX1_greatestKeptNoMore_43 ?_
        refine gf_X1_gains kFX1_23 iX1_greatestKeptNoMore_44 ?_
        refine ld_i4 iX1_greatestKeptNoMore_47 ?_
        refine al_15 rfl (by omega) (by omega) iX1_greatestKeptNoMore_49 ?_
        rw [(hrow p hp1).2.2]
        refine r_lsub iX1_greatestKeptNoMore_50 ?_
        refine ld_a0 iX1_greatestKeptNoMore_51 ?_
        refine ld_i4 iX1_greatestKeptNoMore_52 ?_
        refine xX1_further kMX1_91 iX1_greatestKeptNoMore_54 (by decide) (Nat.le_of_ble_eq_true rfl) rfl rfl ?_
        refine c_further hL0 hp1 ?_
        rw [show (s (p + 1) : Int) - 1 - s p = ((s (p + 1) - 1 - s p : Nat) : Int) by omega]
        refine r_lconst (v := 0) (by decide) iX1_greatestKeptNoMore_57 ?_
        refine xX7_lastNoMore kMX1_106 iX1_greatestKeptNoMore_58 (by decide) (Nat.le_of_ble_eq_true rfl) rfl rfl ?_
        refine c_lastNoMore (by omega) (by omega) (by omega) (by rw [show ((s (p + 1) - 1 - s p : Nat) : Int) = ((s (p + 1) - 1 : Nat) : Int) - s p by omega, ← hll]; omega) (by omega) (fun r hr => ?_)
        have hr := lst_lin (E := fun w : Nat => (w : Int) * sh - F w) hm hlin hr
        have hrb : -1 ≤ r ∧ r ≤ 20000 := by rcases hr with ⟨q, _⟩ | ⟨w, q, _⟩ <;> omega
        refine sv_i5 (by decide) rfl iX1_greatestKeptNoMore_61 ?_
        refine ld_i5 iX1_greatestKeptNoMore_63 ?_
        refine r_iconst iX1_greatestKeptNoMore_65 ?_
        refine r_icmpeq iX1_greatestKeptNoMore_66 (by omega) (by omega) (fun h66 => ?_) (fun h66 => ?_)
        · have hr : ∀ w : Nat, s p ≤ w → w < s (p + 1) → ¬ (w : Int) * sh - F w ≤ 0 := by
            rcases hr with ⟨_, q⟩ | ⟨w, q1, q2, _⟩
            · exact q
            · omega
          refine inc_4 (by decide) rfl iX1_greatestKeptNoMore_80 ?_
          refine r_goto iX1_greatestKeptNoMore_83 ?_
          refine fg_5 ?_
          exact ih _ (by omega) (by omega) (fun w z1 z2 => by rcases Nat.lt_or_ge w (s (p + 1)) with z | z; exact hr w z1 z; exact hno w z z2)
        · refine ld_a0 iX1_greatestKeptNoMore_69 ?_
          refine gf_X1_starts kFX1_15 iX1_greatestKeptNoMore_70 ?_
          refine ld_i4 iX1_greatestKeptNoMore_73 ?_
          refine al_13 rfl (by omega) (by omega) iX1_greatestKeptNoMore_75 ?_
          rw [(hrow p hp1).1]
          refine ld_i5 iX1_greatestKeptNoMore_76 ?_
          refine r_iadd iX1_greatestKeptNoMore_78 ?_
          refine t_int rfl iX1_greatestKeptNoMore_79 ?_
          rcases hr with ⟨q, _⟩ | ⟨w, q1, q2, q3, q4, q5, q6⟩
          · omega
          · rw [q1]; exact hq _ (Or.inr ⟨w, rfl, by omega, q5, fun u z1 z2 => by rcases Nat.lt_or_ge u (s (p + 1)) with z | z; exact q6 u z1 z; exact hno u z z2⟩)
  refine r_ldc2 (z := 1000000000) kKX1_109 (by decide) iX1_greatestKeptNoMore_0 ?_
  refine ld_i1 iX1_greatestKeptNoMore_3 ?_
  refine r_i2l (by omega) iX1_greatestKeptNoMore_4 ?_
  refine r_ldc2 (z := 1000000) kKX1_111 (by decide) iX1_greatestKeptNoMore_5 ?_
  refine r_lmul iX1_greatestKeptNoMore_8 ?_
  refine r_lsub iX1_greatestKeptNoMore_9 ?_
  rw [← hsh]
  refine sv_l2 (by decide) rfl iX1_greatestKeptNoMore_10 ?_
  refine ld_a0 iX1_greatestKeptNoMore_11 ?_
  refine gf_X1_pieces kFX1_9 iX1_greatestKeptNoMore_12 ?_
  refine r_iconst iX1_greatestKeptNoMore_15 ?_
  refine r_isub iX1_greatestKeptNoMore_16 ?_
  refine sv_i4 (by decide) rfl iX1_greatestKeptNoMore_17 ?_
  exact loop P _ (Nat.le_refl _) (by rw [hN0]) (fun w z1 z2 => by rw [hPc.2.2.2.1] at z1; omega)
theorem c_nearestBelow {v : Int} {Pq : Int → Nm → Ge → Prop} (hL : Ln N g i F P s G) (hv : rL v) (hq : ∀ r, Amx F (fun w => F w ≤ v) 10000 r → Pq r N g) : Ck K YX1_nearestBelow hX1_nearestBelow [vr 12 i, vl v] N g (qI Pq) := by
  have hL0 := hL
  obtain ⟨hN0, hrow, hseat, hroom, hB, hPc⟩ := hL
  have hP2 := hPc.2.1
  refine Ck.intro 5 (by decide) rfl ?_
  show AW _ _ _ _ _ [some (vr 12 i), some (vl v), none, none, none, none, none, none] _ _ _
  have loop : ∀ (n p : Nat) (a M b : Int), P - p = n → p ≤ P → b = p → Amx F (fun w => F w ≤ v) (s p) a → (∀ w : Nat, a = w → M = F w) → rL M → AW K YX1_nearestBelow hX1_nearestBelow (qI Pq) 8 [some (vr 12 i), some (vl v), none, some (vi a), some (vl M), none, some (vi b), none] [] N g := by
    intro n
    induction n using Nat.strongRecOn with
    | _ n ih =>
      intro p a M b e hp hb hA hM hMr
      subst hb
      have hst := hPc.top hp
      have hab : -1 ≤ a ∧ a < 10000 := by rcases hA with ⟨q, _⟩ | ⟨w, q, q2, _⟩ <;> omega
      refine ld_i6 iX1_nearestBelow_8 ?_
      refine ld_a0 iX1_nearestBelow_10 ?_
      refine gf_X1_pieces kFX1_9 iX1_nearestBelow_11 ?_
      refine r_icmpge iX1_nearestBelow_14 (by omega) (by omega) (fun h14 => ?_) (fun h14 => ?_)
      · refine ld_i3 iX1_nearestBelow_117 ?_
        refine t_int rfl iX1_nearestBelow_118 ?_
        have e : p = P := by omega
        rw [e, hPc.2.2.2.1] at hA; exact hq _ hA
      · have hp1 : p < P := by omega
        have hm := hPc.2.2.2.2.1 p hp1
        have ht := hPc.top (show p + 1 ≤ P by omega)
        have hG := hPc.2.2.2.2.2.2 p hp1
        have hb1 := hB (s p) (by omega)
        have hb2 := hB (s (p + 1) - 1) (by omega)
        have hll := hPc.2.2.2.2.2.1 p hp1 (s (p + 1) - 1) (by omega) (by omega)
        refine ld_a0 iX1_nearestBelow_17 ?_
        refine gf_X1_values kFX1_19 iX1_nearestBelow_18 ?_
        refine ld_i6 iX1_nearestBelow_21 ?_
        refine al_14 rfl (by omega) (by omega) iX1_nearestBelow_23 ?_
        rw [(hrow p hp1).2.1]
        refine ld_a0 iX1_nearestBelow_24 ?_
        refine gf_X1_gains kFX1_23 iX1_nearestBelow_25 ?_
        refine ld_i6 iX1_nearestBelow_28 ?_
        refine al_15 rfl (by omega) (by omega) iX1_nearestBelow_30 ?_
        rw [(hrow p hp1).2.2]
        refine ld_a0 iX1_nearestBelow_31 ?_
        refine ld_i6 iX1_nearestBelow_32 ?_
        refine xX1_further kMX1_91 iX1_nearestBelow_34 (by decide) (Nat.le_of_ble_eq_true rfl) rfl rfl ?_
        refine c_further hL0 hp1 ?_
        rw [show (s (p + 1) : Int) - 1 - s p = ((s (p + 1) - 1 - s p : Nat) : Int) by omega]
        refine ld_l1 iX1_nearestBelow_37 ?_
        refine xX7_nearestNoMore kMX1_113 iX1_nearestBelow_38 (by decide) (Nat.le_of_ble_eq_true rfl) rfl rfl ?_
        refine c_nearestNoMore (by omega) (by omega) (by omega) (by rw [show ((s (p + 1) - 1 - s p : Nat) : Int) = ((s (p + 1) - 1 : Nat) : Int) - s p by omega, ← hll]; omega) hv (fun r hr => ?_)
        have hr := amx_lin hm (hPc.2.2.2.2.2.1 p hp1) hr
        have hrb : -1 ≤ r ∧ r ≤ 20000 := by rcases hr with ⟨q, _⟩ | ⟨w, q, _⟩ <;> omega
        refine sv_i7 (by decide) rfl iX1_nearestBelow_41 ?_
        refine ld_i7 iX1_nearestBelow_43 ?_
        refine r_iconst iX1_nearestBelow_45 ?_
        refine r_icmpeq iX1_nearestBelow_46 (by omega) (by omega) (fun h46 => ?_) (fun h46 => ?_)
        · have hr : ∀ w, s p ≤ w → w < s (p + 1) → ¬ F w ≤ v := by
            rcases hr with ⟨_, q⟩ | ⟨w, q1, q2, _⟩
            · exact q
            · omega
          have hkeep := amx_none hA (show s p ≤ s (p + 1) by omega) hr
          refine inc_6 (by decide) rfl iX1_nearestBelow_111 ?_
          refine r_goto iX1_nearestBelow_114 ?_
          refine fg_7 ?_
          first
            | exact ih (P - (p + 1)) (by omega) (p + 1) _ _ _ rfl (by omega) (by omega) hkeep hM hMr
            | exact ih (P - (p + 1)) (by omega) (p + 1) _ _ _ rfl (by omega) (by omega) (amx_new hA q3 q4 q5 hbet q7 q8) (fun u z => by rw [show u = w by omega]) (by omega)
        · obtain ⟨w, q1, q2, q3, q4, q5, q6, q7, q8⟩ : ∃ w : Nat, (s p : Int) + r = w ∧ 0 ≤ r ∧ s p ≤ w ∧ w < s (p + 1) ∧ F w ≤ v ∧ F (s p) + r * G p = F w ∧ (∀ u, s p ≤ u → u < s (p + 1) → F u ≤ v → F u ≤ F w) ∧ ∀ u, s p ≤ u → u < w → F u ≤ v → F u < F w := by
            rcases hr with ⟨q, _⟩ | q
            · omega
            · exact q
          have hbw := hB w (by omega)
          refine ld_i3 iX1_nearestBelow_49 ?_
          refine r_iconst iX1_nearestBelow_50 ?_
          refine r_icmpeq iX1_nearestBelow_51 (by omega) (by omega) (fun h51 => ?_) (fun h51 => ?_)
          · have hbet : ∀ u : Nat, a = u → F u < F w := fun u z => by omega
            refine ld_a0 iX1_nearestBelow_79 ?_
            refine gf_X1_starts kFX1_15 iX1_nearestBelow_80 ?_
            refine ld_i6 iX1_nearestBelow_83 ?_
            refine al_13 rfl (by omega) (by omega) iX1_nearestBelow_85 ?_
            rw [(hrow p hp1).1]
            refine ld_i7 iX1_nearestBelow_86 ?_
            refine r_iadd iX1_nearestBelow_88 ?_
            rw [q1]
            refine sv_i3 (by decide) rfl iX1_nearestBelow_89 ?_
            refine ld_a0 iX1_nearestBelow_90 ?_
            refine gf_X1_values kFX1_19 iX1_nearestBelow_91 ?_
            refine ld_i6 iX1_nearestBelow_94 ?_
            refine al_14 rfl (by omega) (by omega) iX1_nearestBelow_96 ?_
            rw [(hrow p hp1).2.1]
            refine ld_i7 iX1_nearestBelow_97 ?_
            refine r_i2l (by omega) iX1_nearestBelow_99 ?_
            refine ld_a0 iX1_nearestBelow_100 ?_
            refine gf_X1_gains kFX1_23 iX1_nearestBelow_101 ?_
            refine ld_i6 iX1_nearestBelow_104 ?_
            refine al_15 rfl (by omega) (by omega) iX1_nearestBelow_106 ?_
            rw [(hrow p hp1).2.2]
            refine r_lmul iX1_nearestBelow_107 ?_
            refine r_ladd iX1_nearestBelow_108 ?_
            rw [q6]
            refine sv_l4 (by decide) rfl iX1_nearestBelow_109 ?_
            refine inc_6 (by decide) rfl iX1_nearestBelow_111 ?_
            refine r_goto iX1_nearestBelow_114 ?_
            refine fg_7 ?_
            first
              | exact ih (P - (p + 1)) (by omega) (p + 1) _ _ _ rfl (by omega) (by omega) hkeep hM hMr
              | exact ih (P - (p + 1)) (by omega) (p + 1) _ _ _ rfl (by omega) (by omega) (amx_new hA q3 q4 q5 hbet q7 q8) (fun u z => by rw [show u = w by omega]) (by omega)
          · refine ld_a0 iX1_nearestBelow_54 ?_
            refine gf_X1_values kFX1_19 iX1_nearestBelow_55 ?_
            refine ld_i6 iX1_nearestBelow_58 ?_
            refine al_14 rfl (by omega) (by omega) iX1_nearestBelow_60 ?_
            rw [(hrow p hp1).2.1]
            refine ld_i7 iX1_nearestBelow_61 ?_
            refine r_i2l (by omega) iX1_nearestBelow_63 ?_
            refine ld_a0 iX1_nearestBelow_64 ?_
            refine gf_X1_gains kFX1_23 iX1_nearestBelow_65 ?_
            refine ld_i6 iX1_nearestBelow_68 ?_
            refine al_15 rfl (by omega) (by omega) iX1_nearestBelow_70 ?_
            rw [(hrow p hp1).2.2]
            refine r_lmul iX1_nearestBelow_71 ?_
            refine r_ladd iX1_nearestBelow_72 ?_
            refine ld_l4 iX1_nearestBelow_73 ?_
            rw [q6]
            refine r_lcle iX1_nearestBelow_75 iX1_nearestBelow_76 (by omega) (by omega) (fun h75 => ?_) (fun h75 => ?_)
            · have hkeep := amx_keep hA (show s p ≤ s (p + 1) by omega) h51 (fun u z1 x z2 z3 z4 => by have y := q7 x z2 z3 z4; have y2 := hM u z1; omega)
              refine inc_6 (by decide) rfl iX1_nearestBelow_111 ?_
              refine r_goto iX1_nearestBelow_114 ?_
              refine fg_7 ?_
              first
                | exact ih (P - (p + 1)) (by omega) (p + 1) _ _ _ rfl (by omega) (by omega) hkeep hM hMr
                | exact ih (P - (p + 1)) (by omega) (p + 1) _ _ _ rfl (by omega) (by omega) (amx_new hA q3 q4 q5 hbet q7 q8) (fun u z => by rw [show u = w by omega]) (by omega)
            · have hbet : ∀ u : Nat, a = u → F u < F w := fun u z => by have y2 := hM u z; omega
              refine ld_a0 iX1_nearestBelow_79 ?_
              refine gf_X1_starts kFX1_15 iX1_nearestBelow_80 ?_
              refine ld_i6 iX1_nearestBelow_83 ?_
              refine al_13 rfl (by omega) (by omega) iX1_nearestBelow_85 ?_
              rw [(hrow p hp1).1]
              refine ld_i7 iX1_nearestBelow_86 ?_
              refine r_iadd iX1_nearestBelow_88 ?_
              rw [q1]
              refine sv_i3 (by decide) rfl iX1_nearestBelow_89 ?_
              refine ld_a0 iX1_nearestBelow_90 ?_
              refine gf_X1_values kFX1_19 iX1_nearestBelow_91 ?_
              refine ld_i6 iX1_nearestBelow_94 ?_
              refine al_14 rfl (by omega) (by omega) iX1_nearestBelow_96 ?_
              rw [(hrow p hp1).2.1]
              refine ld_i7 iX1_nearestBelow_97 ?_
              refine r_i2l (by omega) iX1_nearestBelow_99 ?_
              refine ld_a0 iX1_nearestBelow_100 ?_
              refine gf_X1_gains kFX1_23 iX1_nearestBelow_101 ?_
              refine ld_i6 iX1_nearestBelow_104 ?_
              refine al_15 rfl (by omega) (by omega) iX1_nearestBelow_106 ?_
              rw [(hrow p hp1).2.2]
              refine r_lmul iX1_nearestBelow_107 ?_
              refine r_ladd iX1_nearestBelow_108 ?_
              rw [q6]
              refine sv_l4 (by decide) rfl iX1_nearestBelow_109 ?_
              refine inc_6 (by decide) rfl iX1_nearestBelow_111 ?_
              refine r_goto iX1_nearestBelow_114 ?_
              refine fg_7 ?_
              first
                | exact ih (P - (p + 1)) (by omega) (p + 1) _ _ _ rfl (by omega) (by omega) hkeep hM hMr
                | exact ih (P - (p + 1)) (by omega) (p + 1) _ _ _ rfl (by omega) (by omega) (amx_new hA q3 q4 q5 hbet q7 q8) (fun u z => by rw [show u = w by omega]) (by omega)
  refine r_iconst iX1_nearestBelow_0 ?_
  refine sv_i3 (by decide) rfl iX1_nearestBelow_1 ?_
  refine r_lconst (v := 0) (by decide) iX1_nearestBelow_2 ?_
  refine sv_l4 (by decide) rfl iX1_nearestBelow_3 ?_
  refine r_iconst iX1_nearestBelow_5 ?_
  refine sv_i6 (by decide) rfl iX1_nearestBelow_6 ?_
  exact loop P 0 _ _ _ (by omega) (by omega) (by omega) (by rw [hPc.2.2.1]; exact Or.inl ⟨rfl, fun w q => by omega⟩) (fun w q => by omega) (by omega)
theorem c_cliffInto {p : Nat} {Pq : Int → Nm → Ge → Prop} (hL : Ln N g i F P s G) (hp : p < P) (hq : Pq (if clB F (s p) then 1 else 0) N g) : Ck K YX1_cliffInto hX1_cliffInto [vr 12 i, vi p] N g (qI Pq) := by
  have hP2 := hL.2.2.2.2.2.2.1
  refine Ck.intro 0 (by decide) rfl ?_
  show AW _ _ _ _ _ [some (vr 12 i), some (vi p)] _ _ _
  rcases p with _ | p
  · have e : clB F (s 0) = false := by simp [clB, hL.2.2.2.2.2.2.2.1]
    rw [e] at hq
    refine ld_i1 iX1_cliffInto_0 ?_
    refine r_ifle iX1_cliffInto_1 (by omega) (fun h1 => ?_) (fun h1 => ?_)
    · refine r_iconst iX1_cliffInto_18 ?_
      refine t_bool rfl (by omega) iX1_cliffInto_19 ?_
      exact hq
    · exfalso; omega
  · have hm := hL.2.2.2.2.2.2.2.2.2.1 p (by omega)
    have ht := hL.2.2.2.2.2.top (show p + 1 ≤ P by omega)
    have ht2 := hL.2.2.2.2.2.2.2.2.2.1 (p + 1) hp
    have ht3 := hL.2.2.2.2.2.top (show p + 1 + 1 ≤ P by omega)
    have hb1 := hL.2.2.2.2.1 (s (p + 1)) (by omega)
    have hb2 := hL.2.2.2.2.1 (s (p + 1) - 1) (by omega)
    have e : clB F (s (p + 1)) = decide (F (s (p + 1)) < F (s (p + 1) - 1)) := by
      simp only [clB, decide_eq_decide]; omega
    rw [e] at hq
    refine ld_i1 iX1_cliffInto_0 ?_
    refine r_ifle iX1_cliffInto_1 (by omega) (fun h1 => ?_) (fun h1 => ?_)
    · exfalso; omega
    · refine ld_a0 iX1_cliffInto_4 ?_
      refine ld_i1 iX1_cliffInto_5 ?_
      refine xX1_gainInto kMX1_116 iX1_cliffInto_6 (by decide) (Nat.le_of_ble_eq_true rfl) rfl rfl ?_
      refine c_gainInto hL hp ?_
      refine r_lconst (v := 0) (by decide) iX1_cliffInto_9 ?_
      refine r_lcge iX1_cliffInto_10 iX1_cliffInto_11 (by omega) (by omega) (fun h10 => ?_) (fun h10 => ?_)
      · rw [decide_eq_false (show ¬ F (s (p + 1)) < F (s (p + 1) - 1) by omega)] at hq
        refine r_iconst iX1_cliffInto_18 ?_
        refine t_bool rfl (by omega) iX1_cliffInto_19 ?_
        exact hq
      · rw [decide_eq_true (show F (s (p + 1)) < F (s (p + 1) - 1) by omega)] at hq
        refine r_iconst iX1_cliffInto_14 ?_
        refine r_goto iX1_cliffInto_15 ?_
        refine t_bool rfl (by omega) iX1_cliffInto_19 ?_
        exact hq
theorem c_cliffsIn {p : Nat} {Pq : Int → Nm → Ge → Prop} (hL : Ln N g i F P s G) (hp : p < P) (hq : Pq ((ct (clB F) (s (p + 1)) : Int) - ct (clB F) (s p)) N g) : Ck K YX1_cliffsIn hX1_cliffsIn [vr 12 i, vi p] N g (qI Pq) := by
  have hL0 := hL
  obtain ⟨hN0, hrow, hseat, hroom, hB, hPc⟩ := hL
  have hP2 := hPc.2.1
  have hm := hPc.2.2.2.2.1 p hp
  have hG := hPc.2.2.2.2.2.2 p hp
  rw [cliffs_eq hPc hp] at hq
  refine Ck.intro 0 (by decide) rfl ?_
  show AW _ _ _ _ _ [some (vr 12 i), some (vi p)] _ _ _
  have tl : ∀ z : Int, z = (if clB F (s p) then 1 else 0) → AW K YX1_cliffsIn hX1_cliffsIn (qI Pq) 13 [some (vr 12 i), some (vi p)] [vi z] N g := by
    intro z hz
    refine ld_a0 iX1_cliffsIn_13 ?_
    refine gf_X1_gains kFX1_23 iX1_cliffsIn_14 ?_
    refine ld_i1 iX1_cliffsIn_17 ?_
    refine al_15 rfl (by omega) (by omega) iX1_cliffsIn_18 ?_
    rw [(hrow p hp).2.2]
    refine r_lconst (v := 0) (by decide) iX1_cliffsIn_19 ?_
    refine r_lcge iX1_cliffsIn_20 iX1_cliffsIn_21 (by omega) (by omega) (fun h20 => ?_) (fun h20 => ?_)
    · rw [if_neg (show ¬ G p < 0 by omega)] at hq
      refine r_iconst iX1_cliffsIn_32 ?_
      refine r_iadd iX1_cliffsIn_33 ?_
      refine t_int rfl iX1_cliffsIn_34 ?_
      exact pz hq (by rw [hz]; split <;> omega)
    · rw [if_pos h20] at hq
      refine ld_a0 iX1_cliffsIn_24 ?_
      refine ld_i1 iX1_cliffsIn_25 ?_
      refine xX1_further kMX1_91 iX1_cliffsIn_26 (by decide) (Nat.le_of_ble_eq_true rfl) rfl rfl ?_
      refine c_further hL0 hp ?_
      refine r_goto iX1_cliffsIn_29 ?_
      refine r_iadd iX1_cliffsIn_33 ?_
      refine t_int rfl iX1_cliffsIn_34 ?_
      exact pz hq (by rw [hz]; split <;> omega)
  refine ld_a0 iX1_cliffsIn_0 ?_
  refine ld_i1 iX1_cliffsIn_1 ?_
  refine xX1_cliffInto kMX1_119 iX1_cliffsIn_2 (by decide) (Nat.le_of_ble_eq_true rfl) rfl rfl ?_
  refine c_cliffInto hL0 hp ?_
  refine r_ifeq iX1_cliffsIn_5 (by split <;> omega) (fun h5 => ?_) (fun h5 => ?_)
  · refine r_iconst iX1_cliffsIn_12 ?_
    exact tl _ (by revert h5; split <;> omega)
  · refine r_iconst iX1_cliffsIn_8 ?_
    refine r_goto iX1_cliffsIn_9 ?_
    exact tl _ (by revert h5; split <;> omega)
theorem c_cliffs {Pq : Int → Nm → Ge → Prop} (hL : Ln N g i F P s G) (hq : Pq (ct (clB F) 10000) N g) : Ck K YX1_cliffs hX1_cliffs [vr 12 i] N g (qI Pq) := by
  have hL0 := hL
  obtain ⟨hN0, hrow, hseat, hroom, hB, hPc⟩ := hL
  have hP2 := hPc.2.1
  refine Ck.intro 2 (by decide) rfl ?_
  show AW _ _ _ _ _ [some (vr 12 i), none, none] _ _ _
  have loop : ∀ (n p : Nat) (a b : Int), P - p = n → p ≤ P → b = p → a = ct (clB F) (s p) → AW K YX1_cliffs hX1_cliffs (qI Pq) 4 [some (vr 12 i), some (vi a), some (vi b)] [] N g := by
    intro n
    induction n using Nat.strongRecOn with
    | _ n ih =>
      intro p a b e hp hb ha
      subst hb
      refine ld_i2 iX1_cliffs_4 ?_
      refine ld_a0 iX1_cliffs_5 ?_
      refine gf_X1_pieces kFX1_9 iX1_cliffs_6 ?_
      refine r_icmpge iX1_cliffs_9 (by omega) (by omega) (fun h9 => ?_) (fun h9 => ?_)
      · refine ld_i1 iX1_cliffs_26 ?_
        refine t_int rfl iX1_cliffs_27 ?_
        have e : p = P := by omega
        rw [e, hPc.2.2.2.1] at ha; rw [ha]; exact hq
      · refine ld_i1 iX1_cliffs_12 ?_
        refine ld_a0 iX1_cliffs_13 ?_
        refine ld_i2 iX1_cliffs_14 ?_
        refine xX1_cliffsIn kMX1_123 iX1_cliffs_15 (by decide) (Nat.le_of_ble_eq_true rfl) rfl rfl ?_
        refine c_cliffsIn hL0 (by omega) ?_
        refine r_iadd iX1_cliffs_18 ?_
        refine sv_i1 (by decide) rfl iX1_cliffs_19 ?_
        refine inc_2 (by decide) rfl iX1_cliffs_20 ?_
        refine r_goto iX1_cliffs_23 ?_
        exact ih (P - (p + 1)) (by omega) (p + 1) _ _ rfl (by omega) (by omega) (by omega)
  refine r_iconst iX1_cliffs_0 ?_
  refine sv_i1 (by decide) rfl iX1_cliffs_1 ?_
  refine r_iconst iX1_cliffs_2 ?_
  refine sv_i2 (by decide) rfl iX1_cliffs_3 ?_
  exact loop P 0 _ _ (by omega) (by omega) (by omega) (by rw [hPc.2.2.1]; rfl)
theorem c_cliffWage {j : Int} {Pq : Int → Nm → Ge → Prop} (hL : Ln N g i F P s G) (hj : 0 ≤ j ∧ j ≤ 2147483647) (hq : ∀ r, Kth (clB F) 10000 j r → Pq r N g) : Ck K YX1_cliffWage hX1_cliffWage [vr 12 i, vi j] N g (qI Pq) := by
  have hL0 := hL
  obtain ⟨hN0, hrow, hseat, hroom, hB, hPc⟩ := hL
  have hP2 := hPc.2.1
  refine Ck.intro 3 (by decide) rfl ?_
  show AW _ _ _ _ _ [some (vr 12 i), some (vi j), none, none, none] _ _ _
  have loop : ∀ (n p : Nat) (a b : Int), P - p = n → p ≤ P → b = p → a = j - ct (clB F) (s p) → 0 ≤ a → AW K YX1_cliffWage hX1_cliffWage (qI Pq) 4 [some (vr 12 i), some (vi j), some (vi a), some (vi b), none] [] N g := by
    intro n
    induction n using Nat.strongRecOn with
    | _ n ih =>
      intro p a b e hp hb ha ha0
      subst hb
      have hc1 := ct_le (clB F) (s p)
      have hst := hPc.top hp
      refine ld_i3 iX1_cliffWage_4 ?_
      refine ld_a0 iX1_cliffWage_5 ?_
      refine gf_X1_pieces kFX1_9 iX1_cliffWage_6 ?_
      refine r_icmpge iX1_cliffWage_9 (by omega) (by omega) (fun h9 => ?_) (fun h9 => ?_)
      · refine r_iconst iX1_cliffWage_59 ?_
        refine t_int rfl iX1_cliffWage_60 ?_
        have e : p = P := by omega
        rw [e, hPc.2.2.2.1] at ha; exact hq _ (Or.inl ⟨rfl, by omega⟩)
      · have hp1 : p < P := by omega
        have hm := hPc.2.2.2.2.1 p hp1
        have ht := hPc.top (show p + 1 ≤ P by omega)
        have hc2 := ct_le (clB F) (s (p + 1))
        have hc3 := ct_mono (clB F) (show s p ≤ s (p + 1) by omega)
        have T := cliffs_eq hPc hp1
        have hstep : ∀ w, s p + 1 ≤ w → w < s (p + 1) → G p < 0 → clB F w = true := fun w z1 z2 z3 => by
          have := hPc.lin2 hp1 (show s p ≤ w - 1 by omega) (show w - 1 ≤ w by omega) z2
          rw [show (w : Int) - ((w - 1 : Nat) : Int) = 1 by omega, Int.one_mul] at this
          simp only [clB, decide_eq_true_eq]; omega
        refine ld_a0 iX1_cliffWage_12 ?_
        refine ld_i3 iX1_cliffWage_13 ?_
        refine xX1_cliffsIn kMX1_123 iX1_cliffWage_14 (by decide) (Nat.le_of_ble_eq_true rfl) rfl rfl ?_
        refine c_cliffsIn hL0 hp1 ?_
        refine sv_i4 (by decide) rfl iX1_cliffWage_17 ?_
        refine ld_i2 iX1_cliffWage_19 ?_
        refine ld_i4 iX1_cliffWage_20 ?_
        refine r_icmpge iX1_cliffWage_22 (by omega) (by omega) (fun h22 => ?_) (fun h22 => ?_)
        · refine ld_i2 iX1_cliffWage_48 ?_
          refine ld_i4 iX1_cliffWage_49 ?_
          refine r_isub iX1_cliffWage_51 ?_
          refine sv_i2 (by decide) rfl iX1_cliffWage_52 ?_
          refine inc_3 (by decide) rfl iX1_cliffWage_53 ?_
          refine r_goto iX1_cliffWage_56 ?_
          refine fg_4 ?_
          exact ih (P - (p + 1)) (by omega) (p + 1) _ _ rfl (by omega) (by omega) (by omega) (by omega)
        · refine ld_a0 iX1_cliffWage_25 ?_
          refine gf_X1_starts kFX1_15 iX1_cliffWage_26 ?_
          refine ld_i3 iX1_cliffWage_29 ?_
          refine al_13 rfl (by omega) (by omega) iX1_cliffWage_30 ?_
          rw [(hrow p hp1).1]
          refine ld_i2 iX1_cliffWage_31 ?_
          refine r_iadd iX1_cliffWage_32 ?_
          refine ld_a0 iX1_cliffWage_33 ?_
          refine ld_i3 iX1_cliffWage_34 ?_
          refine xX1_cliffInto kMX1_119 iX1_cliffWage_35 (by decide) (Nat.le_of_ble_eq_true rfl) rfl rfl ?_
          refine c_cliffInto hL0 hp1 ?_
          refine r_ifeq iX1_cliffWage_38 (by split <;> omega) (fun h38 => ?_) (fun h38 => ?_)
          · refine r_iconst iX1_cliffWage_45 ?_
            refine r_iadd iX1_cliffWage_46 ?_
            refine t_int rfl iX1_cliffWage_47 ?_
            obtain ⟨w, hw1, hw2, hw3, hw4⟩ : ∃ w : Nat, (w : Int) = (s p : Int) + a + (if clB F (s p) then 0 else 1) ∧ w < s (p + 1) ∧ clB F w = true ∧ (ct (clB F) w : Int) = j := by
              by_cases hc : clB F (s p) = true
              · rw [if_pos hc] at T ⊢
                by_cases hz : a = 0
                · exact ⟨s p, by omega, by omega, hc, by omega⟩
                · have hg : G p < 0 := Decidable.not_not.mp (fun q => by rw [if_neg q] at T; omega)
                  rw [if_pos hg] at T
                  refine ⟨s p + a.toNat, by omega, by omega, hstep _ (by omega) (by omega) hg, ?_⟩
                  rw [ct_all _ (s p + 1) (s p + a.toNat) (by omega) (fun w z1 z2 => hstep w z1 (by omega) hg), ct, if_pos hc]; omega
              · rw [if_neg hc] at T ⊢
                have hg : G p < 0 := Decidable.not_not.mp (fun q => by rw [if_neg q] at T; omega)
                rw [if_pos hg] at T
                refine ⟨s p + 1 + a.toNat, by omega, by omega, hstep _ (by omega) (by omega) hg, ?_⟩
                rw [ct_all _ (s p + 1) (s p + 1 + a.toNat) (by omega) (fun w z1 z2 => hstep w z1 (by omega) hg), ct, if_neg hc]; omega
            have hk := hq _ (Or.inr ⟨w, rfl, by omega, hw3, hw4⟩)
            rw [hw1] at hk
            refine pz hk ?_
            revert h38; split <;> intro h38 <;> omega
          · refine r_iconst iX1_cliffWage_41 ?_
            refine r_goto iX1_cliffWage_42 ?_
            refine r_iadd iX1_cliffWage_46 ?_
            refine t_int rfl iX1_cliffWage_47 ?_
            obtain ⟨w, hw1, hw2, hw3, hw4⟩ : ∃ w : Nat, (w : Int) = (s p : Int) + a + (if clB F (s p) then 0 else 1) ∧ w < s (p + 1) ∧ clB F w = true ∧ (ct (clB F) w : Int) = j := by
              by_cases hc : clB F (s p) = true
              · rw [if_pos hc] at T ⊢
                by_cases hz : a = 0
                · exact ⟨s p, by omega, by omega, hc, by omega⟩
                · have hg : G p < 0 := Decidable.not_not.mp (fun q => by rw [if_neg q] at T; omega)
                  rw [if_pos hg] at T
                  refine ⟨s p + a.toNat, by omega, by omega, hstep _ (by omega) (by omega) hg, ?_⟩
                  rw [ct_all _ (s p + 1) (s p + a.toNat) (by omega) (fun w z1 z2 => hstep w z1 (by omega) hg), ct, if_pos hc]; omega
              · rw [if_neg hc] at T ⊢
                have hg : G p < 0 := Decidable.not_not.mp (fun q => by rw [if_neg q] at T; omega)
                rw [if_pos hg] at T
                refine ⟨s p + 1 + a.toNat, by omega, by omega, hstep _ (by omega) (by omega) hg, ?_⟩
                rw [ct_all _ (s p + 1) (s p + 1 + a.toNat) (by omega) (fun w z1 z2 => hstep w z1 (by omega) hg), ct, if_neg hc]; omega
            have hk := hq _ (Or.inr ⟨w, rfl, by omega, hw3, hw4⟩)
            rw [hw1] at hk
            refine pz hk ?_
            revert h38; split <;> intro h38 <;> omega
  refine ld_i1 iX1_cliffWage_0 ?_
  refine sv_i2 (by decide) rfl iX1_cliffWage_1 ?_
  refine r_iconst iX1_cliffWage_2 ?_
  refine sv_i3 (by decide) rfl iX1_cliffWage_3 ?_
  exact loop P 0 _ _ (by omega) (by omega) (by omega) (by rw [hPc.2.2.1]; simp [ct]) (by omega)
theorem c_backFrom {c : Nat} {Pq : Int → Nm → Ge → Prop} (hL : Ln N g i F P s G) (hc : 0 < c ∧ c < 10000) (hq : ∀ r N', Sr N N' → Fst (fun w => F (c - 1) ≤ F w) c 10000 r → Pq r N' g) : Ck K YX1_backFrom hX1_backFrom [vr 12 i, vi c] N g (qI Pq) := by
  have hb := hL.2.2.2.2.1 (c - 1) (by omega)
  refine Ck.intro 0 (by decide) rfl ?_
  show AW _ _ _ _ _ [some (vr 12 i), some (vi c)] _ _ _
  refine ld_a0 iX1_backFrom_0 ?_
  refine ld_i1 iX1_backFrom_1 ?_
  refine ld_a0 iX1_backFrom_2 ?_
  refine ld_i1 iX1_backFrom_3 ?_
  refine r_iconst iX1_backFrom_4 ?_
  refine r_isub iX1_backFrom_5 ?_
  rw [show (c : Int) - 1 = ((c - 1 : Nat) : Int) by omega]
  refine xX1_valueAt kMX1_126 iX1_backFrom_6 (by decide) (Nat.le_of_ble_eq_true rfl) rfl rfl ?_
  refine c_valueAt hL (by omega) (fun N1 h1 => ?_)
  refine xX1_leastNoLess kMX1_129 iX1_backFrom_9 (by decide) (Nat.le_of_ble_eq_true rfl) rfl rfl ?_
  refine c_leastNoLess (hL.sr h1) hc.2 (by omega) (fun r N2 h2 h3 => ?_)
  refine t_int rfl iX1_backFrom_12 ?_
  exact hq _ _ (h1.tr h2) h3
theorem c_trapFrom {c : Nat} {Pq : Int → Nm → Ge → Prop} (hL : Ln N g i F P s G) (hc : 0 < c ∧ c < 10000) (hq : ∀ r N', Sr N N' → Fst (fun w => F (c - 1) ≤ F w) c 10000 r → Pq ((if r = -1 then 10000 else r) - c) N' g) : Ck K YX1_trapFrom hX1_trapFrom [vr 12 i, vi c] N g (qI Pq) := by
  refine Ck.intro 1 (by decide) rfl ?_
  show AW _ _ _ _ _ [some (vr 12 i), some (vi c), none] _ _ _
  refine ld_a0 iX1_trapFrom_0 ?_
  refine ld_i1 iX1_trapFrom_1 ?_
  refine xX1_backFrom kMX1_132 iX1_trapFrom_2 (by decide) (Nat.le_of_ble_eq_true rfl) rfl rfl ?_
  refine c_backFrom hL hc (fun r N1 h1 h2 => ?_)
  have hb := h2.bd
  refine sv_i2 (by decide) rfl iX1_trapFrom_5 ?_
  refine ld_i2 iX1_trapFrom_6 ?_
  refine r_iconst iX1_trapFrom_7 ?_
  refine r_icmpne iX1_trapFrom_8 (by omega) (by omega) (fun h8 => ?_) (fun h8 => ?_)
  · refine ld_i2 iX1_trapFrom_17 ?_
    refine ld_i1 iX1_trapFrom_18 ?_
    refine r_isub iX1_trapFrom_19 ?_
    refine t_int rfl iX1_trapFrom_20 ?_
    have hk := hq _ _ h1 h2
    refine pz hk ?_
    split <;> omega
  · refine r_sipush (by decide) iX1_trapFrom_11 ?_
    refine r_goto iX1_trapFrom_14 ?_
    refine ld_i1 iX1_trapFrom_18 ?_
    refine r_isub iX1_trapFrom_19 ?_
    refine t_int rfl iX1_trapFrom_20 ?_
    have hk := hq _ _ h1 h2
    refine pz hk ?_
    split <;> omega
end Line7
