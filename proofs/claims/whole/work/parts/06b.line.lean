/-! own text: counts; a line as its pieces; reading it -/
/-- how many of 0 .. n-1 have p -/
def ct (p : Nat → Bool) : Nat → Nat
  | 0 => 0
  | n + 1 => ct p n + (if p n then 1 else 0)
theorem ct_le (p : Nat → Bool) : ∀ n, ct p n ≤ n
  | 0 => Nat.le_refl _
  | n + 1 => by have := ct_le p n; rw [ct]; split <;> omega
theorem ct_mono (p : Nat → Bool) {m : Nat} : ∀ {n : Nat}, m ≤ n → ct p m ≤ ct p n
  | 0, h => by rw [show m = 0 by omega]; exact Nat.le_refl _
  | n + 1, h => by
    rcases Nat.lt_or_ge n m with q | q
    · rw [show m = n + 1 by omega]; exact Nat.le_refl _
    · have := ct_mono p q; rw [ct]; split <;> omega
theorem ct_cong {p q : Nat → Bool} : ∀ {n : Nat}, (∀ k, k < n → p k = q k) → ct p n = ct q n
  | 0, _ => rfl
  | n + 1, h => by rw [ct, ct, ct_cong (fun k hk => h k (by omega)), h n (by omega)]
theorem ct_none (p : Nat → Bool) (a : Nat) : ∀ b, a ≤ b → (∀ w, a ≤ w → w < b → p w = false) → ct p b = ct p a
  | 0, h, _ => by rw [show a = 0 by omega]
  | b + 1, h, hw => by
    rcases Nat.lt_or_ge b a with q | q
    · rw [show a = b + 1 by omega]
    · rw [ct, hw b q (by omega), ct_none p a b q (fun w h1 h2 => hw w h1 (by omega))]; simp
theorem ct_all (p : Nat → Bool) (a : Nat) : ∀ b, a ≤ b → (∀ w, a ≤ w → w < b → p w = true) → ct p b = ct p a + (b - a)
  | 0, h, _ => by rw [show a = 0 by omega]; rfl
  | b + 1, h, hw => by
    rcases Nat.lt_or_ge b a with q | q
    · rw [show a = b + 1 by omega]; omega
    · rw [ct, hw b q (by omega), ct_all p a b q (fun w h1 h2 => hw w h1 (by omega))]; simp; omega
theorem ct_one (p : Nat → Bool) {a b m : Nat} (h1 : a ≤ m) (h2 : m < b) (hm : p m = true) (ho : ∀ w, a ≤ w → w < b → w ≠ m → p w = false) : ct p b = ct p a + 1 := by
  rw [ct_none p (m + 1) b (by omega) (fun w q1 q2 => ho w (by omega) q2 (by omega)), ct, hm, ct_none p a m h1 (fun w q1 q2 => ho w q1 (by omega) (by omega))]
  simp
/-- the i-th one of 0 .. n-1 with p; -1 if there is none -/
def Kth (p : Nat → Bool) (n : Nat) (i : Int) (r : Int) : Prop := (r = -1 ∧ ¬ (0 ≤ i ∧ i < ct p n)) ∨ ∃ w : Nat, r = (w : Int) ∧ w < n ∧ p w = true ∧ (ct p w : Int) = i
theorem Kth.uniq {p : Nat → Bool} {n : Nat} {i r r' : Int} (h : Kth p n i r) (h' : Kth p n i r') : r = r' := by
  have key : ∀ w w' : Nat, p w = true → ct p w = ct p w' → ¬ w < w' := fun w w' a b c => by
    have := ct_mono p (show w + 1 ≤ w' by omega)
    rw [ct, a] at this
    simp at this
    omega
  have low : ∀ w : Nat, w < n → p w = true → ct p w < ct p n := fun w a b => by
    have := ct_mono p (show w + 1 ≤ n by omega)
    rw [ct, b] at this
    simp at this
    omega
  rcases h with ⟨rfl, h⟩ | ⟨w, rfl, h2, h3, h4⟩ <;> rcases h' with ⟨rfl, h'⟩ | ⟨w', rfl, h2', h3', h4'⟩
  · rfl
  · have := low w' h2' h3'; omega
  · have := low w h2 h3; omega
  · have a := key w w' h3 (by omega)
    have b := key w' w h3' (by omega)
    have : w = w' := by omega
    rw [this]
theorem Kth.cong {p q : Nat → Bool} {n : Nat} {i r : Int} (hpq : ∀ w, w < n → p w = q w) (h : Kth p n i r) : Kth q n i r := by
  have e : ∀ m, m ≤ n → ct p m = ct q m := fun m hm => ct_cong (fun k hk => hpq k (by omega))
  rcases h with ⟨rfl, h⟩ | ⟨w, rfl, h2, h3, h4⟩
  · exact Or.inl ⟨rfl, by rw [← e n (Nat.le_refl _)]; exact h⟩
  · exact Or.inr ⟨w, rfl, h2, by rw [← hpq w h2]; exact h3, by rw [← e w (by omega)]; exact h4⟩
/-- F over the wages 0 .. 9999 as P pieces that begin at s 0, s 1 .., s P = 10000; each wage of piece p brings G p -/
def Pc (F : Nat → Int) (P : Nat) (s : Nat → Nat) (G : Nat → Int) : Prop :=
  1 ≤ P ∧ P ≤ 10000 ∧ s 0 = 0 ∧ s P = 10000 ∧ (∀ p, p < P → s p < s (p + 1)) ∧ (∀ p, p < P → ∀ w, s p ≤ w → w < s (p + 1) → F w = F (s p) + ((w : Int) - s p) * G p) ∧ ∀ p, p < P → -1000000000000000000 ≤ G p ∧ G p ≤ 1000000000000000000
/-- the pieces are the document's: each goes on as far as it can -/
def Cn (F : Nat → Int) (P : Nat) (s : Nat → Nat) (G : Nat → Int) : Prop := (∀ p, p + 1 < P → s p + 2 ≤ s (p + 1) ∧ F (s (p + 1)) - F (s (p + 1) - 1) ≠ G p) ∧ ∀ p, p < P → s p + 1 = s (p + 1) → G p = 0
def Ln (N : Nm) (g : Ge) (i : Nat) (F : Nat → Int) (P : Nat) (s : Nat → Nat) (G : Nat → Int) : Prop :=
  N 12 i 0 = P ∧ (∀ p, p < P → N 13 i p = s p ∧ N 14 i p = F (s p) ∧ N 15 i p = G p) ∧ (0 ≤ N 12 i 7 ∧ N 12 i 7 ≤ 16384) ∧ (P ≤ g.2.2 i ∧ g.2.2 i ≤ 16384) ∧ (∀ w, w < 10000 → bF (F w)) ∧ Pc F P s G
/-- N' is N but for the seats of lines -/
def Sr (N N' : Nm) : Prop := (∀ k a j, ¬ (k = 12 ∧ j = 7) → N' k a j = N k a j) ∧ ∀ a, N' 12 a 7 = N 12 a 7 ∨ (0 ≤ N' 12 a 7 ∧ N' 12 a 7 ≤ 16384)
theorem Sr.rf (N : Nm) : Sr N N := ⟨fun _ _ _ _ => rfl, fun _ => Or.inl rfl⟩
theorem Sr.tr {A B C : Nm} (h1 : Sr A B) (h2 : Sr B C) : Sr A C := ⟨fun k a j q => (h2.1 k a j q).trans (h1.1 k a j q), fun a => by
  rcases h2.2 a with q | q
  · rw [q]; exact h1.2 a
  · exact Or.inr q⟩
theorem Sr.up {N : Nm} {i : Nat} {z : Int} (h0 : 0 ≤ z) (h1 : z ≤ 16384) : Sr N (upN N 12 i 7 z) := ⟨fun k a j q => if_neg (fun z => q ⟨z.1, z.2.2⟩), fun a => by
  by_cases e : a = i
  · subst e; rw [upN_eq]; exact Or.inr ⟨h0, h1⟩
  · exact Or.inl (upN_i e)⟩
theorem Ln.sr {N N' : Nm} {g : Ge} {i : Nat} {F : Nat → Int} {P : Nat} {s : Nat → Nat} {G : Nat → Int} (h : Ln N g i F P s G) (q : Sr N N') : Ln N' g i F P s G := by
  obtain ⟨h1, h2, h3, h4⟩ := h
  refine ⟨by rw [q.1 12 i 0 (by omega)]; exact h1, fun p hp => ?_, ?_, h4⟩
  · rw [q.1 13 i p (by omega), q.1 14 i p (by omega), q.1 15 i p (by omega)]; exact h2 p hp
  · rcases q.2 i with e | e
    · rw [e]; exact h3
    · exact e
theorem Pc.le {F : Nat → Int} {P : Nat} {s : Nat → Nat} {G : Nat → Int} (h : Pc F P s G) : ∀ q, q ≤ P → ∀ p, p ≤ q → s p + (q - p) ≤ s q
  | 0, _, p, hp => by rw [show p = 0 by omega]; omega
  | q + 1, hq, p, hp => by
    rcases Nat.lt_or_ge q p with e | e
    · rw [show p = q + 1 by omega]; omega
    · have a := Pc.le h q (by omega) p e
      have b := h.2.2.2.2.1 q (by omega)
      omega
theorem Pc.top {F : Nat → Int} {P : Nat} {s : Nat → Nat} {G : Nat → Int} (h : Pc F P s G) {p : Nat} (hp : p ≤ P) : s p ≤ 10000 := by
  have := h.le P (Nat.le_refl _) p hp
  rw [h.2.2.2.1] at this
  omega
/-- a wage lies in one piece -/
theorem Pc.find {F : Nat → Int} {P : Nat} {s : Nat → Nat} {G : Nat → Int} (h : Pc F P s G) {w : Nat} (hw : w < 10000) : ∃ p, p < P ∧ s p ≤ w ∧ w < s (p + 1) := by
  have key : ∀ n, n ≤ P → w < s n → ∃ p, p < P ∧ s p ≤ w ∧ w < s (p + 1) := by
    intro n
    induction n with
    | zero => intro _ h2; rw [h.2.2.1] at h2; omega
    | succ n ih =>
      intro h1 h2
      rcases Nat.lt_or_ge w (s n) with q | q
      · exact ih (by omega) q
      · exact ⟨n, by omega, q, h2⟩
  exact key P (Nat.le_refl _) (by rw [h.2.2.2.1]; exact hw)
theorem Pc.one {F : Nat → Int} {P : Nat} {s : Nat → Nat} {G : Nat → Int} (h : Pc F P s G) {w p q : Nat} (hp : p < P) (hq : q < P) (h1 : s p ≤ w) (h2 : w < s (p + 1)) (h3 : s q ≤ w) (h4 : w < s (q + 1)) : p = q := by
  rcases Nat.lt_trichotomy p q with e | e | e
  · have := h.le q (by omega) (p + 1) e; omega
  · exact e
  · have := h.le p (by omega) (q + 1) e; omega
section Line9
variable {K : Kx} {N : Nm} {g : Ge} {i : Nat} {F : Nat → Int} {P : Nat} {s : Nat → Nat} {G : Nat → Int}
theorem c_lastOf {p : Nat} {Pq : Int → Nm → Ge → Prop} (hL : Ln N g i F P s G) (hp : p < P) (hq : Pq ((s (p + 1) : Int) - 1) N g) : Ck K YX1_lastOf hX1_lastOf [vr 12 i, vi p] N g (qI Pq) := by
  obtain ⟨hN0, hrow, hseat, hroom, hB, hPc⟩ := hL
  have hP2 := hPc.2.1
  refine Ck.intro 0 (by decide) rfl ?_
  show AW _ _ _ _ _ [some (vr 12 i), some (vi p)] _ _ _
  refine ld_i1 iX1_lastOf_0 ?_
  refine r_iconst iX1_lastOf_1 ?_
  refine r_iadd iX1_lastOf_2 ?_
  refine ld_a0 iX1_lastOf_3 ?_
  refine gf_X1_pieces kFX1_9 iX1_lastOf_4 ?_
  refine r_icmpge iX1_lastOf_7 (by omega) (by omega) (fun h7 => ?_) (fun h7 => ?_)
  · have e : p + 1 = P := by omega
    rw [e, hPc.2.2.2.1] at hq
    refine r_sipush (by decide) iX1_lastOf_23 ?_
    refine t_int rfl iX1_lastOf_26 ?_
    exact hq
  · refine ld_a0 iX1_lastOf_10 ?_
    refine gf_X1_starts kFX1_15 iX1_lastOf_11 ?_
    refine ld_i1 iX1_lastOf_14 ?_
    refine r_iconst iX1_lastOf_15 ?_
    refine r_iadd iX1_lastOf_16 ?_
    refine al_13 (n := (p + 1)) (by omega) (by omega) (by omega) iX1_lastOf_17 ?_
    rw [(hrow (p + 1) (by omega)).1]
    refine r_iconst iX1_lastOf_18 ?_
    refine r_isub iX1_lastOf_19 ?_
    refine r_goto iX1_lastOf_20 ?_
    refine t_int rfl iX1_lastOf_26 ?_
    exact hq
theorem c_further {p : Nat} {Pq : Int → Nm → Ge → Prop} (hL : Ln N g i F P s G) (hp : p < P) (hq : Pq ((s (p + 1) : Int) - 1 - s p) N g) : Ck K YX1_further hX1_further [vr 12 i, vi p] N g (qI Pq) := by
  have hL0 := hL
  obtain ⟨hN0, hrow, hseat, hroom, hB, hPc⟩ := hL
  have hP2 := hPc.2.1
  refine Ck.intro 0 (by decide) rfl ?_
  show AW _ _ _ _ _ [some (vr 12 i), some (vi p)] _ _ _
  refine ld_a0 iX1_further_0 ?_
  refine ld_i1 iX1_further_1 ?_
  refine xX1_lastOf kMX1_60 iX1_further_2 (by decide) (Nat.le_of_ble_eq_true rfl) rfl rfl ?_
  refine c_lastOf hL0 hp ?_
  refine ld_a0 iX1_further_5 ?_
  refine gf_X1_starts kFX1_15 iX1_further_6 ?_
  refine ld_i1 iX1_further_9 ?_
  refine al_13 rfl (by omega) (by omega) iX1_further_10 ?_
  rw [(hrow p hp).1]
  refine r_isub iX1_further_11 ?_
  refine t_int rfl iX1_further_12 ?_
  exact hq
theorem c_valueIn {p w : Nat} {Pq : Int → Nm → Ge → Prop} (hL : Ln N g i F P s G) (hp : p < P) (hw1 : s p ≤ w) (hw2 : w < s (p + 1)) (hq : Pq (F w) N g) : Ck K YX1_valueIn hX1_valueIn [vr 12 i, vi p, vi w] N g (qL Pq) := by
  obtain ⟨hN0, hrow, hseat, hroom, hB, hPc⟩ := hL
  have hP2 := hPc.2.1
  have ht := hPc.top (show p + 1 ≤ P by omega)
  refine Ck.intro 0 (by decide) rfl ?_
  show AW _ _ _ _ _ [some (vr 12 i), some (vi p), some (vi w)] _ _ _
  refine ld_a0 iX1_valueIn_0 ?_
  refine gf_X1_values kFX1_19 iX1_valueIn_1 ?_
  refine ld_i1 iX1_valueIn_4 ?_
  refine al_14 rfl (by omega) (by omega) iX1_valueIn_5 ?_
  rw [(hrow p hp).2.1]
  refine ld_i2 iX1_valueIn_6 ?_
  refine ld_a0 iX1_valueIn_7 ?_
  refine gf_X1_starts kFX1_15 iX1_valueIn_8 ?_
  refine ld_i1 iX1_valueIn_11 ?_
  refine al_13 rfl (by omega) (by omega) iX1_valueIn_12 ?_
  rw [(hrow p hp).1]
  refine r_isub iX1_valueIn_13 ?_
  refine r_i2l (by omega) iX1_valueIn_14 ?_
  refine ld_a0 iX1_valueIn_15 ?_
  refine gf_X1_gains kFX1_23 iX1_valueIn_16 ?_
  refine ld_i1 iX1_valueIn_19 ?_
  refine al_15 rfl (by omega) (by omega) iX1_valueIn_20 ?_
  rw [(hrow p hp).2.2]
  refine r_lmul iX1_valueIn_21 ?_
  refine r_ladd iX1_valueIn_22 ?_
  refine t_long rfl iX1_valueIn_23 ?_
  rw [hPc.2.2.2.2.2.1 p hp w hw1 hw2] at hq; exact hq
theorem c_lastValue {p : Nat} {Pq : Int → Nm → Ge → Prop} (hL : Ln N g i F P s G) (hp : p < P) (hq : Pq (F (s (p + 1) - 1)) N g) : Ck K YX1_lastValue hX1_lastValue [vr 12 i, vi p] N g (qL Pq) := by
  have hm := hL.2.2.2.2.2.2.2.2.2.1 p hp
  refine Ck.intro 0 (by decide) rfl ?_
  show AW _ _ _ _ _ [some (vr 12 i), some (vi p)] _ _ _
  refine ld_a0 iX1_lastValue_0 ?_
  refine ld_i1 iX1_lastValue_1 ?_
  refine ld_a0 iX1_lastValue_2 ?_
  refine ld_i1 iX1_lastValue_3 ?_
  refine xX1_lastOf kMX1_60 iX1_lastValue_4 (by decide) (Nat.le_of_ble_eq_true rfl) rfl rfl ?_
  refine c_lastOf hL hp ?_
  rw [show (s (p + 1) : Int) - 1 = ((s (p + 1) - 1 : Nat) : Int) by omega]
  refine xX1_valueIn kMX1_70 iX1_lastValue_7 (by decide) (Nat.le_of_ble_eq_true rfl) rfl rfl ?_
  refine c_valueIn hL hp (by omega) (by omega) ?_
  refine t_long rfl iX1_lastValue_10 ?_
  exact hq
theorem c_gainInto {p : Nat} {Pq : Int → Nm → Ge → Prop} (hL : Ln N g i F P s G) (hp : p + 1 < P) (hq : Pq (F (s (p + 1)) - F (s (p + 1) - 1)) N g) : Ck K YX1_gainInto hX1_gainInto [vr 12 i, vi ((p + 1 : Nat) : Int)] N g (qL Pq) := by
  have hL0 := hL
  obtain ⟨hN0, hrow, hseat, hroom, hB, hPc⟩ := hL
  have hP2 := hPc.2.1
  refine Ck.intro 0 (by decide) rfl ?_
  show AW _ _ _ _ _ [some (vr 12 i), some (vi ((p + 1 : Nat) : Int))] _ _ _
  refine ld_a0 iX1_gainInto_0 ?_
  refine gf_X1_values kFX1_19 iX1_gainInto_1 ?_
  refine ld_i1 iX1_gainInto_4 ?_
  refine al_14 rfl (by omega) (by omega) iX1_gainInto_5 ?_
  rw [(hrow (p + 1) hp).2.1]
  refine ld_a0 iX1_gainInto_6 ?_
  refine ld_i1 iX1_gainInto_7 ?_
  refine r_iconst iX1_gainInto_8 ?_
  refine r_isub iX1_gainInto_9 ?_
  rw [show ((p + 1 : Nat) : Int) - 1 = (p : Int) by omega]
  refine xX1_lastValue kMX1_78 iX1_gainInto_10 (by decide) (Nat.le_of_ble_eq_true rfl) rfl rfl ?_
  refine c_lastValue hL0 (by omega) ?_
  refine r_lsub iX1_gainInto_13 ?_
  refine t_long rfl iX1_gainInto_14 ?_
  exact hq
theorem c_pieceOf {w : Nat} {Pq : Int → Nm → Ge → Prop} (hL : Ln N g i F P s G) (hw : w < 10000) (hq : ∀ (p : Nat) N', p < P → s p ≤ w → w < s (p + 1) → Sr N N' → Pq p N' g) : Ck K YX1_pieceOf hX1_pieceOf [vr 12 i, vi w] N g (qI Pq) := by
  have hL0 := hL
  obtain ⟨hN0, hrow, hseat, hroom, hB, hPc⟩ := hL
  have hP1 := hPc.1
  have hP2 := hPc.2.1
  obtain ⟨t, ht⟩ : ∃ t : Nat, N 12 i 7 = t := ⟨(N 12 i 7).toNat, by omega⟩
  refine Ck.intro 4 (by decide) rfl ?_
  show AW _ _ _ _ _ [some (vr 12 i), some (vi w), none, none, none, none] _ _ _
  have fin : ∀ (a : Nat) (v4 v5 v6 : Option AV), a < P → s a ≤ w → w < s (a + 1) → AW K YX1_pieceOf hX1_pieceOf (qI Pq) 102 [some (vr 12 i), some (vi w), some (vi a), v4, v5, v6] [] N g := by
    intro a v4 v5 v6 h1 h2 h3
    refine ld_a0 iX1_pieceOf_102 ?_
    refine ld_i2 iX1_pieceOf_103 ?_
    refine pf_X1_seat kFX1_37 iX1_pieceOf_104 ?_
    refine ld_i2 iX1_pieceOf_107 ?_
    refine t_int rfl iX1_pieceOf_108 ?_
    exact hq a _ h1 h2 h3 (Sr.up (by omega) (by omega))
  have loop : ∀ (n a b c : Nat) (v6 : Option AV), c + n = 15 → a ≤ b → b < P → b - a < 2 ^ n → s a ≤ w → w < s (b + 1) → AW K YX1_pieceOf hX1_pieceOf (qI Pq) 53 [some (vr 12 i), some (vi w), some (vi a), some (vi b), some (vi c), v6] [] N g := by
    intro n
    induction n with
    | zero =>
      intro a b c v6 h1 h2 h3 h4 h5 h6
      have e : a = b := by simp at h4; omega
      subst e
      refine ld_i4 iX1_pieceOf_53 ?_
      refine r_bipush (by decide) iX1_pieceOf_55 ?_
      refine r_icmpge iX1_pieceOf_57 (by omega) (by omega) (fun h57 => ?_) (fun h57 => ?_)
      · exact fin _ _ _ _ h3 h5 h6
      · exfalso; omega
    | succ n ih =>
      intro a b c v6 h1 h2 h3 h4 h5 h6
      rw [Nat.pow_succ] at h4
      generalize hD : 2 ^ n = D at h4 ih
      have hm : ((a : Int) + b + 1).tdiv 2 = ((a + b + 1) / 2 : Nat) := by
        rw [Int.tdiv_eq_ediv_of_nonneg (by omega)]; omega
      refine ld_i4 iX1_pieceOf_53 ?_
      refine r_bipush (by decide) iX1_pieceOf_55 ?_
      refine r_icmpge iX1_pieceOf_57 (by omega) (by omega) (fun h57 => ?_) (fun h57 => ?_)
      · exfalso; omega
      · refine ld_i2 iX1_pieceOf_60 ?_
        refine ld_i3 iX1_pieceOf_61 ?_
        refine r_icmpge iX1_pieceOf_62 (by omega) (by omega) (fun h62 => ?_) (fun h62 => ?_)
        · have e : a = b := by omega
          subst e
          exact fin _ _ _ _ h3 h5 h6
        · refine ld_i2 iX1_pieceOf_65 ?_
          refine ld_i3 iX1_pieceOf_66 ?_
          refine r_iadd iX1_pieceOf_67 ?_
          refine r_iconst iX1_pieceOf_68 ?_
          refine r_iadd iX1_pieceOf_69 ?_
          refine r_iconst iX1_pieceOf_70 ?_
          refine r_idiv (by omega) (by omega) (by omega) iX1_pieceOf_71 ?_
          rw [hm]
          refine sv_i5 (by decide) rfl iX1_pieceOf_72 ?_
          refine ld_a0 iX1_pieceOf_74 ?_
          refine gf_X1_starts kFX1_15 iX1_pieceOf_75 ?_
          refine ld_i5 iX1_pieceOf_78 ?_
          refine al_13 rfl (by omega) (by omega) iX1_pieceOf_80 ?_
          rw [(hrow ((a + b + 1) / 2) (by omega)).1]
          have hst := hPc.top (show (a + b + 1) / 2 ≤ P by omega)
          refine ld_i1 iX1_pieceOf_81 ?_
          refine r_icmpgt iX1_pieceOf_82 (by omega) (by omega) (fun h82 => ?_) (fun h82 => ?_)
          · refine ld_i5 iX1_pieceOf_91 ?_
            refine r_iconst iX1_pieceOf_93 ?_
            refine r_isub iX1_pieceOf_94 ?_
            rw [show (((a + b + 1) / 2 : Nat) : Int) - 1 = (((a + b + 1) / 2 - 1 : Nat) : Int) by omega]
            refine sv_i3 (by decide) rfl iX1_pieceOf_95 ?_
            refine inc_4 (by decide) rfl iX1_pieceOf_96 ?_
            refine r_goto iX1_pieceOf_99 ?_
            first
              | exact ih ((a + b + 1) / 2) b (c + 1) _ (by omega) (by omega) h3 (by omega) (by omega) h6
              | exact ih a ((a + b + 1) / 2 - 1) (c + 1) _ (by omega) (by omega) (by omega) (by omega) h5 (by rw [show (a + b + 1) / 2 - 1 + 1 = (a + b + 1) / 2 by omega]; omega)
          · refine ld_i5 iX1_pieceOf_85 ?_
            refine sv_i2 (by decide) rfl iX1_pieceOf_87 ?_
            refine r_goto iX1_pieceOf_88 ?_
            refine inc_4 (by decide) rfl iX1_pieceOf_96 ?_
            refine r_goto iX1_pieceOf_99 ?_
            first
              | exact ih ((a + b + 1) / 2) b (c + 1) _ (by omega) (by omega) h3 (by omega) (by omega) h6
              | exact ih a ((a + b + 1) / 2 - 1) (c + 1) _ (by omega) (by omega) (by omega) (by omega) h5 (by rw [show (a + b + 1) / 2 - 1 + 1 = (a + b + 1) / 2 by omega]; omega)
  refine ld_a0 iX1_pieceOf_0 ?_
  refine gf_X1_seat kFX1_37 iX1_pieceOf_1 ?_
  refine ld_a0 iX1_pieceOf_4 ?_
  refine gf_X1_pieces kFX1_9 iX1_pieceOf_5 ?_
  refine r_icmpge iX1_pieceOf_8 (by omega) (by omega) (fun h8 => ?_) (fun h8 => ?_)
  · refine r_iconst iX1_pieceOf_41 ?_
    refine sv_i2 (by decide) rfl iX1_pieceOf_42 ?_
    refine ld_a0 iX1_pieceOf_43 ?_
    refine gf_X1_pieces kFX1_9 iX1_pieceOf_44 ?_
    refine r_iconst iX1_pieceOf_47 ?_
    refine r_isub iX1_pieceOf_48 ?_
    rw [hN0, show (P : Int) - 1 = ((P - 1 : Nat) : Int) by omega]
    refine sv_i3 (by decide) rfl iX1_pieceOf_49 ?_
    refine r_iconst iX1_pieceOf_50 ?_
    refine sv_i4 (by decide) rfl iX1_pieceOf_51 ?_
    exact loop 15 0 (P - 1) 0 none (by omega) (by omega) (by omega) (by omega) (by rw [hPc.2.2.1]; omega) (by rw [show P - 1 + 1 = P by omega, hPc.2.2.2.1]; exact hw)
  · refine ld_i1 iX1_pieceOf_11 ?_
    refine ld_a0 iX1_pieceOf_12 ?_
    refine gf_X1_starts kFX1_15 iX1_pieceOf_13 ?_
    refine ld_a0 iX1_pieceOf_16 ?_
    refine gf_X1_seat kFX1_37 iX1_pieceOf_17 ?_
    rw [ht]
    refine al_13 rfl (by omega) (by omega) iX1_pieceOf_20 ?_
    rw [(hrow t (by omega)).1]
    have hst := hPc.top (show t ≤ P by omega)
    have hst2 := hPc.top (show t + 1 ≤ P by omega)
    refine r_icmplt iX1_pieceOf_21 (by omega) (by omega) (fun h21 => ?_) (fun h21 => ?_)
    · refine r_iconst iX1_pieceOf_41 ?_
      refine sv_i2 (by decide) rfl iX1_pieceOf_42 ?_
      refine ld_a0 iX1_pieceOf_43 ?_
      refine gf_X1_pieces kFX1_9 iX1_pieceOf_44 ?_
      refine r_iconst iX1_pieceOf_47 ?_
      refine r_isub iX1_pieceOf_48 ?_
      rw [hN0, show (P : Int) - 1 = ((P - 1 : Nat) : Int) by omega]
      refine sv_i3 (by decide) rfl iX1_pieceOf_49 ?_
      refine r_iconst iX1_pieceOf_50 ?_
      refine sv_i4 (by decide) rfl iX1_pieceOf_51 ?_
      exact loop 15 0 (P - 1) 0 none (by omega) (by omega) (by omega) (by omega) (by rw [hPc.2.2.1]; omega) (by rw [show P - 1 + 1 = P by omega, hPc.2.2.2.1]; exact hw)
    · refine ld_i1 iX1_pieceOf_24 ?_
      refine ld_a0 iX1_pieceOf_25 ?_
      refine ld_a0 iX1_pieceOf_26 ?_
      refine gf_X1_seat kFX1_37 iX1_pieceOf_27 ?_
      rw [ht]
      refine xX1_lastOf kMX1_60 iX1_pieceOf_30 (by decide) (Nat.le_of_ble_eq_true rfl) rfl rfl ?_
      refine c_lastOf hL0 (by omega) ?_
      refine r_icmpgt iX1_pieceOf_33 (by omega) (by omega) (fun h33 => ?_) (fun h33 => ?_)
      · refine r_iconst iX1_pieceOf_41 ?_
        refine sv_i2 (by decide) rfl iX1_pieceOf_42 ?_
        refine ld_a0 iX1_pieceOf_43 ?_
        refine gf_X1_pieces kFX1_9 iX1_pieceOf_44 ?_
        refine r_iconst iX1_pieceOf_47 ?_
        refine r_isub iX1_pieceOf_48 ?_
        rw [hN0, show (P : Int) - 1 = ((P - 1 : Nat) : Int) by omega]
        refine sv_i3 (by decide) rfl iX1_pieceOf_49 ?_
        refine r_iconst iX1_pieceOf_50 ?_
        refine sv_i4 (by decide) rfl iX1_pieceOf_51 ?_
        exact loop 15 0 (P - 1) 0 none (by omega) (by omega) (by omega) (by omega) (by rw [hPc.2.2.1]; omega) (by rw [show P - 1 + 1 = P by omega, hPc.2.2.2.1]; exact hw)
      · refine ld_a0 iX1_pieceOf_36 ?_
        refine gf_X1_seat kFX1_37 iX1_pieceOf_37 ?_
        refine t_int rfl iX1_pieceOf_40 ?_
        rw [ht]; exact hq t N (by omega) (by omega) (by omega) (Sr.rf N)
theorem c_valueAt {w : Nat} {Pq : Int → Nm → Ge → Prop} (hL : Ln N g i F P s G) (hw : w < 10000) (hq : ∀ N', Sr N N' → Pq (F w) N' g) : Ck K YX1_valueAt hX1_valueAt [vr 12 i, vi w] N g (qL Pq) := by
  refine Ck.intro 0 (by decide) rfl ?_
  show AW _ _ _ _ _ [some (vr 12 i), some (vi w)] _ _ _
  refine ld_a0 iX1_valueAt_0 ?_
  refine ld_a0 iX1_valueAt_1 ?_
  refine ld_i1 iX1_valueAt_2 ?_
  refine xX1_pieceOf kMX1_82 iX1_valueAt_3 (by decide) (Nat.le_of_ble_eq_true rfl) rfl rfl ?_
  refine c_pieceOf hL hw (fun p N' h1 h2 h3 h4 => ?_)
  refine ld_i1 iX1_valueAt_6 ?_
  refine xX1_valueIn kMX1_70 iX1_valueAt_7 (by decide) (Nat.le_of_ble_eq_true rfl) rfl rfl ?_
  refine c_valueIn (hL.sr h4) h1 h2 h3 ?_
  refine t_long rfl iX1_valueAt_10 ?_
  exact hq N' h4
/-- how often a value is met on a piece -/
theorem times_eq {p : Nat} {v : Int} (hPc : Pc F P s G) (hp : p < P) : ((v < min (F (s p)) (F (s (p + 1) - 1)) ∨ max (F (s p)) (F (s (p + 1) - 1)) < v) → ct (fun w => decide (F w = v)) (s (p + 1)) = ct (fun w => decide (F w = v)) (s p)) ∧
    (min (F (s p)) (F (s (p + 1) - 1)) ≤ v → v ≤ max (F (s p)) (F (s (p + 1) - 1)) → (G p = 0 → ct (fun w => decide (F w = v)) (s (p + 1)) = ct (fun w => decide (F w = v)) (s p) + (s (p + 1) - s p)) ∧
      (G p ≠ 0 → ((v - F (s p)).tmod (G p) = 0 → ct (fun w => decide (F w = v)) (s (p + 1)) = ct (fun w => decide (F w = v)) (s p) + 1 ∧ ∃ m : Nat, s p + m < s (p + 1) ∧ F (s p + m) = v ∧ (v - F (s p)).tdiv (G p) = m) ∧ ((v - F (s p)).tmod (G p) ≠ 0 → ct (fun w => decide (F w = v)) (s (p + 1)) = ct (fun w => decide (F w = v)) (s p)))) := by
  have hm := hPc.2.2.2.2.1 p hp
  have hlin := hPc.2.2.2.2.2.1 p hp
  have hlast := hlin (s (p + 1) - 1) (by omega) (by omega)
  have hbd : ∀ w, s p ≤ w → w < s (p + 1) → min (F (s p)) (F (s (p + 1) - 1)) ≤ F w ∧ F w ≤ max (F (s p)) (F (s (p + 1) - 1)) := by
    intro w h1 h2
    have e := hlin w h1 h2
    have c : (((s (p + 1) - 1 : Nat) : Int) - s p) = ((w : Int) - s p) + (((s (p + 1) - 1 : Nat) : Int) - w) := by omega
    rw [c, Int.add_mul] at hlast
    rcases Int.le_total 0 (G p) with q | q
    · have a := Int.mul_nonneg (show 0 ≤ (w : Int) - s p by omega) q
      have b := Int.mul_nonneg (show 0 ≤ ((s (p + 1) - 1 : Nat) : Int) - w by omega) q
      omega
    · have a := Int.mul_nonpos_of_nonneg_of_nonpos (show 0 ≤ (w : Int) - s p by omega) q
      have b := Int.mul_nonpos_of_nonneg_of_nonpos (show 0 ≤ ((s (p + 1) - 1 : Nat) : Int) - w by omega) q
      omega
  refine ⟨fun h => ct_none _ _ _ (by omega) (fun w h1 h2 => ?_), fun h1 h2 => ⟨fun h0 => ?_, fun h0 => ?_⟩⟩
  · have := hbd w h1 h2
    simp only [decide_eq_false_iff_not]
    omega
  · rw [h0] at hlast
    simp only [Int.mul_zero] at hlast
    refine ct_all _ _ _ (by omega) (fun w a b => ?_)
    have e := hlin w a b
    rw [h0] at e
    simp only [Int.mul_zero] at e
    simp only [decide_eq_true_eq]
    omega
  · have hdm := Int.tmod_add_mul_tdiv (v - F (s p)) (G p)
    refine ⟨fun hz => ?_, fun hz => ?_⟩
    · rw [hz, Int.zero_add] at hdm
      generalize hk : (v - F (s p)).tdiv (G p) = k at hdm
      rw [Int.mul_comm] at hdm
      have hk0 : 0 ≤ k := by
        apply Int.not_lt.mp
        intro z
        rcases Int.lt_or_gt_of_ne h0 with q | q
        · have a := Int.mul_pos_of_neg_of_neg z q
          have b := Int.mul_nonpos_of_nonneg_of_nonpos (show 0 ≤ ((s (p + 1) - 1 : Nat) : Int) - s p by omega) (show G p ≤ 0 by omega)
          omega
        · have a := Int.mul_neg_of_neg_of_pos z q
          have b := Int.mul_nonneg (show 0 ≤ ((s (p + 1) - 1 : Nat) : Int) - s p by omega) (show 0 ≤ G p by omega)
          omega
      have hk1 : k ≤ ((s (p + 1) - 1 : Nat) : Int) - s p := by
        apply Int.not_lt.mp
        intro z
        rcases Int.lt_or_gt_of_ne h0 with q | q
        · have a := mul_anti (show ((s (p + 1) - 1 : Nat) : Int) - s p + 1 ≤ k by omega) (show G p ≤ 0 by omega)
          rw [lin_step] at a
          have b := Int.mul_nonpos_of_nonneg_of_nonpos (show 0 ≤ ((s (p + 1) - 1 : Nat) : Int) - s p by omega) (show G p ≤ 0 by omega)
          omega
        · have a := mul_mono (show ((s (p + 1) - 1 : Nat) : Int) - s p + 1 ≤ k by omega) (show 0 ≤ G p by omega)
          rw [lin_step] at a
          have b := Int.mul_nonneg (show 0 ≤ ((s (p + 1) - 1 : Nat) : Int) - s p by omega) (show 0 ≤ G p by omega)
          omega
      have hF : F (s p + k.toNat) = v := by
        rw [hlin (s p + k.toNat) (by omega) (by omega), show ((s p + k.toNat : Nat) : Int) - s p = k by omega, hdm]
        omega
      refine ⟨ct_one _ (m := s p + k.toNat) (by omega) (by omega) (by simpa using hF) (fun w a b c => ?_), k.toNat, by omega, hF, by omega⟩
      have e := hlin w a b
      simp only [decide_eq_false_iff_not]
      intro q
      have e2 : (((w : Int) - s p) - k) * G p = 0 := by rw [Int.sub_mul]; omega
      rcases Int.mul_eq_zero.mp e2 with z | z
      · omega
      · exact h0 z
    · refine ct_none _ _ _ (by omega) (fun w a b => ?_)
      have e := hlin w a b
      simp only [decide_eq_false_iff_not]
      intro q
      apply hz
      rw [show v - F (s p) = ((w : Int) - s p) * G p by omega]
      exact Int.mul_tmod_left _ _
theorem c_timesIn {p : Nat} {v : Int} {Pq : Int → Nm → Ge → Prop} (hL : Ln N g i F P s G) (hp : p < P) (hv : rL v) (hq : Pq ((ct (fun w => decide (F w = v)) (s (p + 1)) : Int) - ct (fun w => decide (F w = v)) (s p)) N g) : Ck K YX1_timesIn hX1_timesIn [vr 12 i, vi p, vl v] N g (qI Pq) := by
  have hL0 := hL
  obtain ⟨hN0, hrow, hseat, hroom, hB, hPc⟩ := hL
  have hP2 := hPc.2.1
  have hm := hPc.2.2.2.2.1 p hp
  have ht := hPc.top (show p + 1 ≤ P by omega)
  have hb1 := hB (s p) (by omega)
  have hb2 := hB (s (p + 1) - 1) (by omega)
  have hG := hPc.2.2.2.2.2.2 p hp
  have T := times_eq (v := v) hPc hp
  refine Ck.intro 2 (by decide) rfl ?_
  show AW _ _ _ _ _ [some (vr 12 i), some (vi p), some (vl v), none, none, none] _ _ _
  refine ld_a0 iX1_timesIn_0 ?_
  refine gf_X1_gains kFX1_23 iX1_timesIn_1 ?_
  refine ld_i1 iX1_timesIn_4 ?_
  refine al_15 rfl (by omega) (by omega) iX1_timesIn_5 ?_
  rw [(hrow p hp).2.2]
  refine sv_l4 (by decide) rfl iX1_timesIn_6 ?_
  refine ld_l2 iX1_timesIn_8 ?_
  refine ld_a0 iX1_timesIn_9 ?_
  refine gf_X1_values kFX1_19 iX1_timesIn_10 ?_
  refine ld_i1 iX1_timesIn_13 ?_
  refine al_14 rfl (by omega) (by omega) iX1_timesIn_14 ?_
  rw [(hrow p hp).2.1]
  refine ld_a0 iX1_timesIn_15 ?_
  refine ld_i1 iX1_timesIn_16 ?_
  refine xX1_lastValue kMX1_78 iX1_timesIn_17 (by decide) (Nat.le_of_ble_eq_true rfl) rfl rfl ?_
  refine c_lastValue hL0 hp ?_
  refine xJ9_min_f86c9 kMX1_85 iX1_timesIn_20 (by decide) (Nat.le_of_ble_eq_true rfl) rfl rfl ?_
  refine c_minL (by omega) (by omega) ?_
  refine r_lclt iX1_timesIn_23 iX1_timesIn_24 (by omega) (by omega) (fun h23 => ?_) (fun h23 => ?_)
  · refine r_iconst iX1_timesIn_46 ?_
    refine t_int rfl iX1_timesIn_47 ?_
    rw [T.1 (by omega)] at hq; exact pz hq (by omega)
  · refine ld_l2 iX1_timesIn_27 ?_
    refine ld_a0 iX1_timesIn_28 ?_
    refine gf_X1_values kFX1_19 iX1_timesIn_29 ?_
    refine ld_i1 iX1_timesIn_32 ?_
    refine al_14 rfl (by omega) (by omega) iX1_timesIn_33 ?_
    rw [(hrow p hp).2.1]
    refine ld_a0 iX1_timesIn_34 ?_
    refine ld_i1 iX1_timesIn_35 ?_
    refine xX1_lastValue kMX1_78 iX1_timesIn_36 (by decide) (Nat.le_of_ble_eq_true rfl) rfl rfl ?_
    refine c_lastValue hL0 hp ?_
    refine xJ9_max_f86c9 kMX1_88 iX1_timesIn_39 (by decide) (Nat.le_of_ble_eq_true rfl) rfl rfl ?_
    refine c_maxL (by omega) (by omega) ?_
    refine r_lcle iX1_timesIn_42 iX1_timesIn_43 (by omega) (by omega) (fun h42 => ?_) (fun h42 => ?_)
    · refine ld_l4 iX1_timesIn_48 ?_
      refine r_lconst (v := 0) (by decide) iX1_timesIn_50 ?_
      refine r_lcne iX1_timesIn_51 iX1_timesIn_52 (by omega) (by omega) (fun h51 => ?_) (fun h51 => ?_)
      · refine ld_l2 iX1_timesIn_63 ?_
        refine ld_a0 iX1_timesIn_64 ?_
        refine gf_X1_values kFX1_19 iX1_timesIn_65 ?_
        refine ld_i1 iX1_timesIn_68 ?_
        refine al_14 rfl (by omega) (by omega) iX1_timesIn_69 ?_
        rw [(hrow p hp).2.1]
        refine r_lsub iX1_timesIn_70 ?_
        refine ld_l4 iX1_timesIn_71 ?_
        refine r_lrem (by omega) (by omega) (by omega) iX1_timesIn_73 ?_
        refine r_lconst (v := 0) (by decide) iX1_timesIn_74 ?_
        refine r_lcne iX1_timesIn_75 iX1_timesIn_76 (by first | (have a := tmod_bd (v - F (s p)) (G p); omega) | omega) (by first | (have a := tmod_bd (v - F (s p)) (G p); omega) | omega) (fun h75 => ?_) (fun h75 => ?_)
        · have hz : (v - F (s p)).tmod (G p) ≠ 0 := h75
          rw [((T.2 h23 h42).2 h51).2 hz] at hq
          refine r_iconst iX1_timesIn_83 ?_
          refine t_int rfl iX1_timesIn_84 ?_
          exact pz hq (by omega)
        · have hz : (v - F (s p)).tmod (G p) = 0 := h75
          rw [(((T.2 h23 h42).2 h51).1 hz).1] at hq
          refine r_iconst iX1_timesIn_79 ?_
          refine r_goto iX1_timesIn_80 ?_
          refine t_int rfl iX1_timesIn_84 ?_
          exact pz hq (by omega)
      · refine ld_a0 iX1_timesIn_55 ?_
        refine ld_i1 iX1_timesIn_56 ?_
        refine xX1_further kMX1_91 iX1_timesIn_57 (by decide) (Nat.le_of_ble_eq_true rfl) rfl rfl ?_
        refine c_further hL0 hp ?_
        refine r_iconst iX1_timesIn_60 ?_
        refine r_iadd iX1_timesIn_61 ?_
        refine t_int rfl iX1_timesIn_62 ?_
        rw [(T.2 h23 h42).1 h51] at hq; exact pz hq (by omega)
    · refine r_iconst iX1_timesIn_46 ?_
      refine t_int rfl iX1_timesIn_47 ?_
      rw [T.1 (by omega)] at hq; exact pz hq (by omega)
end Line9
