/-! own text: first, last, counts; Steps -/
abbrev bF (z : Int) : Prop := -500000000000000000 ≤ z ∧ z ≤ 500000000000000000
/-- the first one of a .. n-1 with p; -1 if none -/
def Fst (p : Nat → Prop) (a n : Nat) (r : Int) : Prop := (r = -1 ∧ ∀ w, a ≤ w → w < n → ¬ p w) ∨ ∃ w : Nat, r = (w : Int) ∧ a ≤ w ∧ w < n ∧ p w ∧ ∀ u, a ≤ u → u < w → ¬ p u
/-- the last one of 0 .. n-1 with p; -1 if none -/
def Lst (p : Nat → Prop) (n : Nat) (r : Int) : Prop := (r = -1 ∧ ∀ w, w < n → ¬ p w) ∨ ∃ w : Nat, r = (w : Int) ∧ w < n ∧ p w ∧ ∀ u, w < u → u < n → ¬ p u
theorem Fst.uniq {p : Nat → Prop} {a n : Nat} {r r' : Int} (h : Fst p a n r) (h' : Fst p a n r') : r = r' := by
  rcases h with ⟨rfl, h⟩ | ⟨w, rfl, h1, h2, h3, h4⟩ <;> rcases h' with ⟨rfl, h'⟩ | ⟨w', rfl, h1', h2', h3', h4'⟩
  · rfl
  · exact absurd h3' (h w' h1' h2')
  · exact absurd h3 (h' w h1 h2)
  · rcases Nat.lt_trichotomy w w' with q | q | q
    · exact absurd h3 (h4' w h1 q)
    · rw [q]
    · exact absurd h3' (h4 w' h1' q)
theorem Lst.uniq {p : Nat → Prop} {n : Nat} {r r' : Int} (h : Lst p n r) (h' : Lst p n r') : r = r' := by
  rcases h with ⟨rfl, h⟩ | ⟨w, rfl, h2, h3, h4⟩ <;> rcases h' with ⟨rfl, h'⟩ | ⟨w', rfl, h2', h3', h4'⟩
  · rfl
  · exact absurd h3' (h w' h2')
  · exact absurd h3 (h' w h2)
  · rcases Nat.lt_trichotomy w w' with q | q | q
    · exact absurd h3' (h4 w' q h2')
    · rw [q]
    · exact absurd h3 (h4' w q h2)
theorem Fst.cong {p q : Nat → Prop} {a n : Nat} {r : Int} (hpq : ∀ w, a ≤ w → w < n → (p w ↔ q w)) (h : Fst p a n r) : Fst q a n r := by
  rcases h with ⟨rfl, h⟩ | ⟨w, rfl, h1, h2, h3, h4⟩
  · exact Or.inl ⟨rfl, fun w a1 a2 => fun z => h w a1 a2 ((hpq w a1 a2).mpr z)⟩
  · exact Or.inr ⟨w, rfl, h1, h2, (hpq w h1 h2).mp h3, fun u a1 a2 => fun z => h4 u a1 a2 ((hpq u a1 (by omega)).mpr z)⟩
theorem Lst.cong {p q : Nat → Prop} {n : Nat} {r : Int} (hpq : ∀ w, w < n → (p w ↔ q w)) (h : Lst p n r) : Lst q n r := by
  rcases h with ⟨rfl, h⟩ | ⟨w, rfl, h2, h3, h4⟩
  · exact Or.inl ⟨rfl, fun w a2 => fun z => h w a2 ((hpq w a2).mpr z)⟩
  · exact Or.inr ⟨w, rfl, h2, (hpq w h2).mp h3, fun u a1 a2 => fun z => h4 u a1 a2 ((hpq u a2).mpr z)⟩
theorem Fst.bd {p : Nat → Prop} {a n : Nat} {r : Int} (h : Fst p a n r) : -1 ≤ r ∧ r < n := by
  rcases h with ⟨rfl, h⟩ | ⟨w, rfl, h1, h2, h3, h4⟩ <;> omega
theorem Lst.bd {p : Nat → Prop} {n : Nat} {r : Int} (h : Lst p n r) : -1 ≤ r ∧ r < n := by
  rcases h with ⟨rfl, h⟩ | ⟨w, rfl, h1, h2, h3⟩ <;> omega
/-! products of steps -/
theorem mul_mono {a b G : Int} (h : a ≤ b) (hG : 0 ≤ G) : a * G ≤ b * G := Int.mul_le_mul_of_nonneg_right h hG
theorem mul_anti {a b G : Int} (h : a ≤ b) (hG : G ≤ 0) : b * G ≤ a * G := Int.mul_le_mul_of_nonpos_right h hG
theorem lin_step (n G : Int) : (n + 1) * G = n * G + G := by rw [Int.add_mul, Int.one_mul]
section Steps9
variable {K : Kx} {N : Nm} {g : Ge}
theorem ceil_first {v G lim : Int} {last : Nat} (h1 : v < lim) (h2 : lim ≤ v + last * G) (hG : 0 < G) : Fst (fun n => lim ≤ v + (n : Int) * G) 0 (last + 1) ((lim - v + G - 1).tdiv G) := by
  have h0 : 0 ≤ lim - v + G - 1 := by omega
  rw [Int.tdiv_eq_ediv_of_nonneg h0]
  generalize hq : (lim - v + G - 1) / G = q
  have hq1 : q * G ≤ lim - v + G - 1 := by rw [← hq]; exact Int.ediv_mul_le _ (by omega)
  have hq2 : lim - v + G - 1 < (q + 1) * G := by rw [← hq]; exact Int.lt_ediv_add_one_mul_self _ hG
  rw [lin_step] at hq2
  have hq0 : 0 ≤ q := by rw [← hq]; exact Int.ediv_nonneg h0 (by omega)
  have hq3 : q ≤ last := by
    apply Int.not_lt.mp
    intro z
    have := mul_mono (show (last : Int) + 1 ≤ q by omega) (show 0 ≤ G by omega)
    rw [lin_step] at this
    omega
  right
  refine ⟨q.toNat, by omega, by omega, by omega, ?_, fun u _ hu => ?_⟩
  · show lim ≤ v + ((q.toNat : Nat) : Int) * G
    rw [show ((q.toNat : Nat) : Int) = q by omega]; omega
  · show ¬ lim ≤ v + (u : Int) * G
    have := mul_mono (show (u : Int) + 1 ≤ q by omega) (show 0 ≤ G by omega)
    rw [lin_step] at this
    omega
theorem c_firstNoLess {v G lim : Int} {last : Nat} {P : Int → Nm → Ge → Prop} (hl : last ≤ 9999) (hv : bF v) (hG : -1000000000000000000 ≤ G ∧ G ≤ 1000000000000000000) (he : bF (v + last * G)) (hlim : rL lim) (hq : ∀ r, Fst (fun n => lim ≤ v + (n : Int) * G) 0 (last + 1) r → P r N g) :
    Ck K YX7_firstNoLess hX7_firstNoLess [vl v, vl G, vi last, vl lim] N g (qI P) := by
  refine Ck.intro 0 (by decide) rfl ?_
  show AW _ _ _ _ _ [some (vl v), none, some (vl G), none, some (vi last), some (vl lim), none] _ _ _
  have hmono : G ≤ 0 → ∀ n : Nat, n < last + 1 → v + (n : Int) * G ≤ v := fun hg n _ => by
    have := mul_anti (show (0 : Int) ≤ n by omega) hg
    omega
  have hmon2 : 0 ≤ G → ∀ n : Nat, n < last + 1 → v + (n : Int) * G ≤ v + last * G := fun hg n hn => by
    have := mul_mono (show (n : Int) ≤ last by omega) hg
    omega
  refine ld_l0 iX7_firstNoLess_0 ?_
  refine ld_l5 iX7_firstNoLess_1 ?_
  refine r_lclt iX7_firstNoLess_3 iX7_firstNoLess_4 (by omega) (by omega) (fun h3 => ?_) (fun h3 => ?_)
  · refine ld_l2 iX7_firstNoLess_9 ?_
    refine r_lconst (v := 0) (by decide) iX7_firstNoLess_10 ?_
    refine r_lcle iX7_firstNoLess_11 iX7_firstNoLess_12 (by omega) (by omega) (fun h11 => ?_) (fun h11 => ?_)
    · refine r_iconst iX7_firstNoLess_28 ?_
      refine t_int rfl iX7_firstNoLess_29 ?_
      refine hq _ (Or.inl ⟨rfl, fun w _ hw => ?_⟩)
      show ¬ lim ≤ v + (w : Int) * G
      first | (have h := hmono h11 w hw; omega) | (have h := hmon2 (by omega) w hw; omega)
    · refine ld_l0 iX7_firstNoLess_15 ?_
      refine ld_i4 iX7_firstNoLess_16 ?_
      refine r_i2l (by omega) iX7_firstNoLess_18 ?_
      refine ld_l2 iX7_firstNoLess_19 ?_
      refine r_lmul iX7_firstNoLess_20 ?_
      refine r_ladd iX7_firstNoLess_21 ?_
      refine ld_l5 iX7_firstNoLess_22 ?_
      refine r_lcge iX7_firstNoLess_24 iX7_firstNoLess_25 (by omega) (by omega) (fun h24 => ?_) (fun h24 => ?_)
      · refine ld_l5 iX7_firstNoLess_30 ?_
        refine ld_l0 iX7_firstNoLess_32 ?_
        refine r_lsub iX7_firstNoLess_33 ?_
        refine ld_l2 iX7_firstNoLess_34 ?_
        refine r_ladd iX7_firstNoLess_35 ?_
        refine r_lconst (v := 1) (by decide) iX7_firstNoLess_36 ?_
        refine r_lsub iX7_firstNoLess_37 ?_
        refine ld_l2 iX7_firstNoLess_38 ?_
        refine r_ldiv (by omega) (by omega) (by omega) iX7_firstNoLess_39 ?_
        refine r_l2i iX7_firstNoLess_40 ?_
        refine t_int rfl iX7_firstNoLess_41 ?_
        exact hq _ (ceil_first h3 h24 (by omega))
      · refine r_iconst iX7_firstNoLess_28 ?_
        refine t_int rfl iX7_firstNoLess_29 ?_
        refine hq _ (Or.inl ⟨rfl, fun w _ hw => ?_⟩)
        show ¬ lim ≤ v + (w : Int) * G
        first | (have h := hmono h11 w hw; omega) | (have h := hmon2 (by omega) w hw; omega)
  · refine r_iconst iX7_firstNoLess_7 ?_
    refine t_int rfl iX7_firstNoLess_8 ?_
    exact hq _ (Or.inr ⟨0, rfl, by omega, by omega, by simpa using h3, fun u _ hu => by omega⟩)
theorem floor_last {v G lim : Int} {last : Nat} (h1 : v ≤ lim) (h2 : lim < v + last * G) (hG : 0 < G) : Lst (fun n => v + (n : Int) * G ≤ lim) (last + 1) ((lim - v).tdiv G) := by
  have h0 : 0 ≤ lim - v := by omega
  rw [Int.tdiv_eq_ediv_of_nonneg h0]
  generalize hq : (lim - v) / G = q
  have hq1 : q * G ≤ lim - v := by rw [← hq]; exact Int.ediv_mul_le _ (by omega)
  have hq2 : lim - v < (q + 1) * G := by rw [← hq]; exact Int.lt_ediv_add_one_mul_self _ hG
  rw [lin_step] at hq2
  have hq0 : 0 ≤ q := by rw [← hq]; exact Int.ediv_nonneg h0 (by omega)
  have hq3 : q < last := by
    apply Int.not_le.mp
    intro z
    have := mul_mono z (show 0 ≤ G by omega)
    omega
  right
  refine ⟨q.toNat, by omega, by omega, ?_, fun u hu _ => ?_⟩
  · show v + ((q.toNat : Nat) : Int) * G ≤ lim
    rw [show ((q.toNat : Nat) : Int) = q by omega]; omega
  · show ¬ v + (u : Int) * G ≤ lim
    have := mul_mono (show q + 1 ≤ (u : Int) by omega) (show 0 ≤ G by omega)
    rw [lin_step] at this
    omega
theorem c_lastNoMore {v G lim : Int} {last : Nat} {P : Int → Nm → Ge → Prop} (hl : last ≤ 9999) (hv : -1600000000000000000 ≤ v ∧ v ≤ 1600000000000000000) (hG : -2000000000000000000 ≤ G ∧ G ≤ 2000000000000000000) (he : -1600000000000000000 ≤ v + last * G ∧ v + last * G ≤ 1600000000000000000) (hlim : rL lim) (hq : ∀ r, Lst (fun n => v + (n : Int) * G ≤ lim) (last + 1) r → P r N g) :
    Ck K YX7_lastNoMore hX7_lastNoMore [vl v, vl G, vi last, vl lim] N g (qI P) := by
  refine Ck.intro 0 (by decide) rfl ?_
  show AW _ _ _ _ _ [some (vl v), none, some (vl G), none, some (vi last), some (vl lim), none] _ _ _
  refine ld_l0 iX7_lastNoMore_0 ?_
  refine ld_i4 iX7_lastNoMore_1 ?_
  refine r_i2l (by omega) iX7_lastNoMore_3 ?_
  refine ld_l2 iX7_lastNoMore_4 ?_
  refine r_lmul iX7_lastNoMore_5 ?_
  refine r_ladd iX7_lastNoMore_6 ?_
  refine ld_l5 iX7_lastNoMore_7 ?_
  refine r_lcgt iX7_lastNoMore_9 iX7_lastNoMore_10 (by omega) (by omega) (fun h9 => ?_) (fun h9 => ?_)
  · refine ld_l2 iX7_lastNoMore_16 ?_
    refine r_lconst (v := 0) (by decide) iX7_lastNoMore_17 ?_
    refine r_lcle iX7_lastNoMore_18 iX7_lastNoMore_19 (by omega) (by omega) (fun h18 => ?_) (fun h18 => ?_)
    · refine r_iconst iX7_lastNoMore_29 ?_
      refine t_int rfl iX7_lastNoMore_30 ?_
      refine hq _ (Or.inl ⟨rfl, fun w hw => ?_⟩)
      show ¬ v + (w : Int) * G ≤ lim
      first | (have h := mul_anti (show (w : Int) ≤ last by omega) h18; omega) | (have h := mul_mono (show (0 : Int) ≤ w by omega) (show 0 ≤ G by omega); omega)
    · refine ld_l0 iX7_lastNoMore_22 ?_
      refine ld_l5 iX7_lastNoMore_23 ?_
      refine r_lcle iX7_lastNoMore_25 iX7_lastNoMore_26 (by omega) (by omega) (fun h25 => ?_) (fun h25 => ?_)
      · refine ld_l5 iX7_lastNoMore_31 ?_
        refine ld_l0 iX7_lastNoMore_33 ?_
        refine r_lsub iX7_lastNoMore_34 ?_
        refine ld_l2 iX7_lastNoMore_35 ?_
        refine r_ldiv (by omega) (by omega) (by omega) iX7_lastNoMore_36 ?_
        refine r_l2i iX7_lastNoMore_37 ?_
        refine t_int rfl iX7_lastNoMore_38 ?_
        exact hq _ (floor_last (by omega) h9 (by omega))
      · refine r_iconst iX7_lastNoMore_29 ?_
        refine t_int rfl iX7_lastNoMore_30 ?_
        refine hq _ (Or.inl ⟨rfl, fun w hw => ?_⟩)
        show ¬ v + (w : Int) * G ≤ lim
        first | (have h := mul_anti (show (w : Int) ≤ last by omega) h18; omega) | (have h := mul_mono (show (0 : Int) ≤ w by omega) (show 0 ≤ G by omega); omega)
  · refine ld_i4 iX7_lastNoMore_13 ?_
    refine t_int rfl iX7_lastNoMore_15 ?_
    exact hq _ (Or.inr ⟨last, rfl, by omega, h9, fun u a b => by omega⟩)
/-- of those with p the one at which f is most, of several the first; -1 if none -/
def Amx (f : Nat → Int) (p : Nat → Prop) (n : Nat) (r : Int) : Prop := (r = -1 ∧ ∀ w, w < n → ¬ p w) ∨ ∃ w : Nat, r = (w : Int) ∧ w < n ∧ p w ∧ (∀ u, u < n → p u → f u ≤ f w) ∧ ∀ u, u < w → p u → f u < f w
theorem Amx.uniq {f : Nat → Int} {p : Nat → Prop} {n : Nat} {r r' : Int} (h : Amx f p n r) (h' : Amx f p n r') : r = r' := by
  rcases h with ⟨rfl, h⟩ | ⟨w, rfl, h2, h3, h4, h5⟩ <;> rcases h' with ⟨rfl, h'⟩ | ⟨w', rfl, h2', h3', h4', h5'⟩
  · rfl
  · exact absurd h3' (h w' h2')
  · exact absurd h3 (h' w h2)
  · rcases Nat.lt_trichotomy w w' with q | q | q
    · have a := h5' w q h3
      have b := h4 w' h2' h3'
      omega
    · rw [q]
    · have a := h5 w' q h3'
      have b := h4' w h2 h3
      omega
theorem Amx.cong {f f' : Nat → Int} {p q : Nat → Prop} {n : Nat} {r : Int} (hf : ∀ w, w < n → f w = f' w) (hpq : ∀ w, w < n → (p w ↔ q w)) (h : Amx f p n r) : Amx f' q n r := by
  rcases h with ⟨rfl, h⟩ | ⟨w, rfl, h2, h3, h4, h5⟩
  · exact Or.inl ⟨rfl, fun w a => fun z => h w a ((hpq w a).mpr z)⟩
  · exact Or.inr ⟨w, rfl, h2, (hpq w h2).mp h3, fun u a b => by rw [← hf u a, ← hf w h2]; exact h4 u a ((hpq u a).mpr b), fun u a b => by rw [← hf u (by omega), ← hf w h2]; exact h5 u a ((hpq u (by omega)).mpr b)⟩
theorem lst_amx {v G : Int} {lim : Int} {last : Nat} {r : Int} (hG : 0 < G) (h : Lst (fun n => v + (n : Int) * G ≤ lim) (last + 1) r) : Amx (fun n => v + (n : Int) * G) (fun n => v + (n : Int) * G ≤ lim) (last + 1) r := by
  rcases h with ⟨rfl, h⟩ | ⟨w, rfl, h2, h3, h4⟩
  · exact Or.inl ⟨rfl, h⟩
  · refine Or.inr ⟨w, rfl, h2, h3, fun u a b => ?_, fun u a b => ?_⟩
    · show v + (u : Int) * G ≤ v + (w : Int) * G
      rcases Nat.lt_or_ge w u with q | q
      · exact absurd b (h4 u q a)
      · have := mul_mono (show (u : Int) ≤ w by omega) (show 0 ≤ G by omega)
        omega
    · show v + (u : Int) * G < v + (w : Int) * G
      have := mul_mono (show (u : Int) + 1 ≤ w by omega) (show 0 ≤ G by omega)
      rw [lin_step] at this
      omega
theorem c_nearestNoMore {v G lim : Int} {last : Nat} {P : Int → Nm → Ge → Prop} (hl : last ≤ 9999) (hv : bF v) (hG : -1000000000000000000 ≤ G ∧ G ≤ 1000000000000000000) (he : bF (v + last * G)) (hlim : rL lim) (hq : ∀ r, Amx (fun n => v + (n : Int) * G) (fun n => v + (n : Int) * G ≤ lim) (last + 1) r → P r N g) :
    Ck K YX7_nearestNoMore hX7_nearestNoMore [vl v, vl G, vi last, vl lim] N g (qI P) := by
  refine Ck.intro 0 (by decide) rfl ?_
  show AW _ _ _ _ _ [some (vl v), none, some (vl G), none, some (vi last), some (vl lim), none] _ _ _
  have dec : G < 0 → v > lim → v + last * G ≤ lim → Amx (fun n => v + (n : Int) * G) (fun n => v + (n : Int) * G ≤ lim) (last + 1) ((v - lim - G - 1).tdiv (-G)) := by
    intro g0 g1 g2
    have hf := ceil_first (v := -v) (G := -G) (lim := -lim) (last := last) (by omega) (by rw [Int.mul_neg]; omega) (by omega)
    rw [show -lim - -v + -G - 1 = v - lim - G - 1 by omega] at hf
    rcases hf with ⟨_, h⟩ | ⟨w, e, _, h2, h3, h4⟩
    · have := h last (by omega) (by omega)
      simp only [Int.mul_neg] at this
      omega
    · refine Or.inr ⟨w, e, h2, ?_, fun u a b => ?_, fun u a b => ?_⟩
      · show v + (w : Int) * G ≤ lim
        have h3 : -lim ≤ -v + (w : Int) * -G := h3
        rw [Int.mul_neg] at h3
        omega
      · show v + (u : Int) * G ≤ v + (w : Int) * G
        rcases Nat.lt_or_ge u w with q | q
        · have h5 : ¬ -lim ≤ -v + (u : Int) * -G := h4 u (by omega) q
          have b : v + (u : Int) * G ≤ lim := b
          rw [Int.mul_neg] at h5
          omega
        · have := mul_anti (show (w : Int) ≤ u by omega) (show G ≤ 0 by omega)
          omega
      · have h5 : ¬ -lim ≤ -v + (u : Int) * -G := h4 u (by omega) a
        have b : v + (u : Int) * G ≤ lim := b
        rw [Int.mul_neg] at h5
        omega
  have mono0 : G ≤ 0 → ∀ n : Nat, v + (n : Int) * G ≤ v := fun hg n => by
    have := mul_anti (show (0 : Int) ≤ n by omega) hg
    omega
  have monoL : G ≤ 0 → ∀ n : Nat, n < last + 1 → v + last * G ≤ v + (n : Int) * G := fun hg n hn => by
    have := mul_anti (show (n : Int) ≤ last by omega) hg
    omega
  refine ld_l2 iX7_nearestNoMore_0 ?_
  refine r_lconst (v := 0) (by decide) iX7_nearestNoMore_1 ?_
  refine r_lcle iX7_nearestNoMore_2 iX7_nearestNoMore_3 (by omega) (by omega) (fun h2 => ?_) (fun h2 => ?_)
  · refine ld_l0 iX7_nearestNoMore_16 ?_
    refine ld_l5 iX7_nearestNoMore_17 ?_
    refine r_lcgt iX7_nearestNoMore_19 iX7_nearestNoMore_20 (by omega) (by omega) (fun h19 => ?_) (fun h19 => ?_)
    · refine ld_l2 iX7_nearestNoMore_25 ?_
      refine r_lconst (v := 0) (by decide) iX7_nearestNoMore_26 ?_
      refine r_lceq iX7_nearestNoMore_27 iX7_nearestNoMore_28 (by omega) (by omega) (fun h27 => ?_) (fun h27 => ?_)
      · refine r_iconst iX7_nearestNoMore_44 ?_
        refine t_int rfl iX7_nearestNoMore_45 ?_
        refine hq _ (Or.inl ⟨rfl, fun w hw => ?_⟩)
        show ¬ v + (w : Int) * G ≤ lim
        first | (have h := monoL (by omega) w hw; omega) | (rw [h27]; omega)
      · refine ld_l0 iX7_nearestNoMore_31 ?_
        refine ld_i4 iX7_nearestNoMore_32 ?_
        refine r_i2l (by omega) iX7_nearestNoMore_34 ?_
        refine ld_l2 iX7_nearestNoMore_35 ?_
        refine r_lmul iX7_nearestNoMore_36 ?_
        refine r_ladd iX7_nearestNoMore_37 ?_
        refine ld_l5 iX7_nearestNoMore_38 ?_
        refine r_lcle iX7_nearestNoMore_40 iX7_nearestNoMore_41 (by omega) (by omega) (fun h40 => ?_) (fun h40 => ?_)
        · refine ld_l0 iX7_nearestNoMore_46 ?_
          refine ld_l5 iX7_nearestNoMore_47 ?_
          refine r_lsub iX7_nearestNoMore_49 ?_
          refine ld_l2 iX7_nearestNoMore_50 ?_
          refine r_lsub iX7_nearestNoMore_51 ?_
          refine r_lconst (v := 1) (by decide) iX7_nearestNoMore_52 ?_
          refine r_lsub iX7_nearestNoMore_53 ?_
          refine ld_l2 iX7_nearestNoMore_54 ?_
          refine r_lneg iX7_nearestNoMore_55 ?_
          refine r_ldiv (by omega) (by omega) (by omega) iX7_nearestNoMore_56 ?_
          refine r_l2i iX7_nearestNoMore_57 ?_
          refine t_int rfl iX7_nearestNoMore_58 ?_
          exact hq _ (dec (by omega) (by omega) (by omega))
        · refine r_iconst iX7_nearestNoMore_44 ?_
          refine t_int rfl iX7_nearestNoMore_45 ?_
          refine hq _ (Or.inl ⟨rfl, fun w hw => ?_⟩)
          show ¬ v + (w : Int) * G ≤ lim
          first | (have h := monoL (by omega) w hw; omega) | (rw [h27]; omega)
    · refine r_iconst iX7_nearestNoMore_23 ?_
      refine t_int rfl iX7_nearestNoMore_24 ?_
      refine hq _ (Or.inr ⟨0, rfl, by omega, by simpa using h19, fun u a b => ?_, fun u a b => by omega⟩)
      have h := mono0 (by omega) u; show v + (u : Int) * G ≤ v + ((0 : Nat) : Int) * G; simp; omega
  · refine ld_l0 iX7_nearestNoMore_6 ?_
    refine ld_l2 iX7_nearestNoMore_7 ?_
    refine ld_i4 iX7_nearestNoMore_8 ?_
    refine ld_l5 iX7_nearestNoMore_10 ?_
    refine xX7_lastNoMore kMX7_9 iX7_nearestNoMore_12 (by decide) (Nat.le_of_ble_eq_true rfl) rfl rfl ?_
    refine c_lastNoMore hl (by omega) (by omega) (by omega) hlim (fun r hr => ?_)
    refine t_int rfl iX7_nearestNoMore_15 ?_
    exact hq _ (lst_amx (by omega) hr)
end Steps9
