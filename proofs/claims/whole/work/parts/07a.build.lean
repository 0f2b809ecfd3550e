/-! own text: a line is drawn -/
abbrev RmOK (r : Nat) : Prop := r = 16 ∨ r = 32 ∨ r = 64 ∨ r = 128 ∨ r = 256 ∨ r = 512 ∨ r = 1024 ∨ r = 2048 ∨ r = 4096 ∨ r = 8192 ∨ r = 16384
/-- F over the wages 0 .. T-1 as its pieces -/
def Pb (F : Nat → Int) (P : Nat) (s : Nat → Nat) (G : Nat → Int) (T : Nat) : Prop :=
  1 ≤ P ∧ P ≤ T ∧ s 0 = 0 ∧ s P = T ∧ (∀ p, p < P → s p < s (p + 1)) ∧ (∀ p, p < P → ∀ w, s p ≤ w → w < s (p + 1) → F w = F (s p) + ((w : Int) - s p) * G p) ∧ (∀ p, p + 1 < P → s p + 2 ≤ s (p + 1) ∧ F (s (p + 1)) - F (s (p + 1) - 1) ≠ G p) ∧ ∀ p, p < P → s p + 1 = s (p + 1) → G p = 0
/-- the rows of line i hold these pieces -/
def Rw (N : Nm) (i : Nat) (F : Nat → Int) (P : Nat) (s : Nat → Nat) (G : Nat → Int) : Prop := ∀ p, p < P → N 13 i p = s p ∧ N 14 i p = F (s p) ∧ N 15 i p = G p
/-- line i while it is drawn, up to the wage T-1 -/
def Bd (N : Nm) (g : Ge) (i : Nat) (F : Nat → Int) (P : Nat) (s : Nat → Nat) (G : Nat → Int) (T : Nat) : Prop :=
  N 12 i 0 = P ∧ Rw N i F P s G ∧ N 12 i 4 = (T : Int) - 1 ∧ N 12 i 5 = F (T - 1) ∧ N 12 i 6 = (if s (P - 1) + 1 = T then 1 else 0) ∧ N 12 i 7 = 0 ∧ P ≤ g.2.2 i ∧ RmOK (g.2.2 i) ∧ Pb F P s G T
/-- nothing but line i has changed -/
def FrL (i : Nat) (N N' : Nm) : Prop := ∀ k a j, ¬ (12 ≤ k ∧ k ≤ 15 ∧ a = i) → N' k a j = N k a j
def GeL (i : Nat) (g g' : Ge) : Prop := g'.1 = g.1 ∧ g'.2.1 = g.2.1 ∧ (∀ a, a ≠ i → g'.2.2 a = g.2.2 a) ∧ RmOK (g'.2.2 i)
theorem FrL.rf (i : Nat) (N : Nm) : FrL i N N := fun _ _ _ _ => rfl
theorem FrL.tr {i : Nat} {A B C : Nm} (h1 : FrL i A B) (h2 : FrL i B C) : FrL i A C := fun k a j q => (h2 k a j q).trans (h1 k a j q)
theorem FrL.up {i k j : Nat} {A B : Nm} {v : Int} (h : FrL i A B) (hk : 12 ≤ k ∧ k ≤ 15) : FrL i A (upN B k i j v) := fun k' a' j' q => by
  rw [← h k' a' j' q]
  exact if_neg (fun z => q ⟨by omega, by omega, z.2.1⟩)
theorem GeL.rf {i : Nat} {g : Ge} (h : RmOK (g.2.2 i)) : GeL i g g := ⟨rfl, rfl, fun _ _ => rfl, h⟩
theorem GeL.tr {i : Nat} {a b c : Ge} (h1 : GeL i a b) (h2 : GeL i b c) : GeL i a c := ⟨h2.1.trans h1.1, h2.2.1.trans h1.2.1, fun x q => (h2.2.2.1 x q).trans (h1.2.2.1 x q), h2.2.2.2⟩
theorem Pb.le {F : Nat → Int} {P : Nat} {s : Nat → Nat} {G : Nat → Int} {T : Nat} (h : Pb F P s G T) : ∀ q, q ≤ P → ∀ p, p ≤ q → s p + (q - p) ≤ s q
  | 0, _, p, hp => by rw [show p = 0 by omega]; omega
  | q + 1, hq, p, hp => by
    rcases Nat.lt_or_ge q p with e | e
    · rw [show p = q + 1 by omega]; omega
    · have a := Pb.le h q (by omega) p e
      have b := h.2.2.2.2.1 q (by omega)
      omega
/-- the last piece goes on -/
theorem Pb.more {F : Nat → Int} {P : Nat} {s : Nat → Nat} {G : Nat → Int} {T n : Nat} {d : Int} (h : Pb F P s G T) (hn : 0 < n) (hF : ∀ k : Nat, k ≤ n → F (T - 1 + k) = F (T - 1) + k * d) (hd : s (P - 1) + 1 = T ∨ G (P - 1) = d) :
    Pb F P (fun p => if p = P then T + n else s p) (fun p => if p = P - 1 then d else G p) (T + n) := by
  obtain ⟨h1, h2, h3, h4, h5, h6, h7, h8⟩ := h
  have hl := h5 (P - 1) (by omega)
  rw [show P - 1 + 1 = P by omega, h4] at hl
  refine ⟨h1, by omega, by simp only; rw [if_neg (by omega)]; exact h3, by simp, fun p hp => ?_, fun p hp w w1 w2 => ?_, fun p hp => ?_, fun p hp e => ?_⟩
  · simp only
    rw [if_neg (by omega)]
    split
    · rename_i e; rw [show p = P - 1 by omega]; omega
    · exact h5 p hp
  · simp only at w1 w2 ⊢
    rw [if_neg (show p ≠ P by omega)] at w1 ⊢
    by_cases e : p = P - 1
    · rw [if_pos e]
      rw [if_pos (show p + 1 = P by omega)] at w2
      rw [e] at w1 ⊢
      rcases Nat.lt_or_ge w T with q | q
      · rcases hd with z | z
        · rw [show w = s (P - 1) by omega]; simp
        · rw [← z]; exact h6 (P - 1) (by omega) w w1 (by rw [show P - 1 + 1 = P by omega, h4]; exact q)
      · have a1 := hF (w - (T - 1)) (by omega)
        rw [show T - 1 + (w - (T - 1)) = w by omega, show ((w - (T - 1) : Nat) : Int) = (w : Int) - (T : Int) + 1 by omega] at a1
        have a2 := h6 (P - 1) (by omega) (T - 1) (by omega) (by rw [show P - 1 + 1 = P by omega, h4]; omega)
        rcases hd with z | z
        · rw [show T - 1 = s (P - 1) by omega] at a1
          rw [a1, show (w : Int) - (T : Int) + 1 = (w : Int) - s (P - 1) by omega]
        · rw [z] at a2
          rw [a1, a2, show (w : Int) - s (P - 1) = (((T - 1 : Nat) : Int) - s (P - 1)) + ((w : Int) - T + 1) by omega, Int.add_mul (((T - 1 : Nat) : Int) - s (P - 1)) ((w : Int) - T + 1) d]
          omega
    · rw [if_neg e]
      rw [if_neg (show p + 1 ≠ P by omega)] at w2
      exact h6 p hp w w1 w2
  · simp only
    rw [if_neg (show p ≠ P by omega), if_neg (show p + 1 ≠ P by omega), if_neg (show p ≠ P - 1 by omega)]
    exact h7 p hp
  · simp only at e ⊢
    rw [if_neg (show p ≠ P by omega)] at e
    by_cases e2 : p = P - 1
    · rw [if_pos (show p + 1 = P by omega), e2] at e; omega
    · rw [if_neg e2]
      rw [if_neg (show p + 1 ≠ P by omega)] at e
      exact h8 p hp e
/-- a new piece of one wage -/
theorem Pb.one {F : Nat → Int} {P : Nat} {s : Nat → Nat} {G : Nat → Int} {T : Nat} (h : Pb F P s G T) (ha : s (P - 1) + 1 ≠ T) (hd : F T - F (T - 1) ≠ G (P - 1)) :
    Pb F (P + 1) (fun p => if p = P + 1 then T + 1 else s p) (fun p => if p = P then 0 else G p) (T + 1) := by
  obtain ⟨h1, h2, h3, h4, h5, h6, h7, h8⟩ := h
  have hl := h5 (P - 1) (by omega)
  rw [show P - 1 + 1 = P by omega, h4] at hl
  refine ⟨by omega, by omega, by simp only; rw [if_neg (by omega)]; exact h3, by simp, fun p hp => ?_, fun p hp w w1 w2 => ?_, fun p hp => ?_, fun p hp e => ?_⟩
  · simp only
    rw [if_neg (by omega)]
    split
    · rename_i e; rw [show p = P by omega, h4]; omega
    · exact h5 p (by omega)
  · simp only at w1 w2 ⊢
    rw [if_neg (show p ≠ P + 1 by omega)] at w1 ⊢
    by_cases e : p = P
    · rw [if_pos (by omega)] at w2
      rw [e, h4] at w1 ⊢
      rw [show w = T by omega]; simp
    · rw [if_neg e]
      rw [if_neg (by omega)] at w2
      exact h6 p (by omega) w w1 w2
  · simp only
    rw [if_neg (show p ≠ P + 1 by omega), if_neg (show p + 1 ≠ P + 1 by omega), if_neg (show p ≠ P by omega)]
    by_cases e : p + 1 = P
    · rw [e, h4, show p = P - 1 by omega]
      exact ⟨by omega, hd⟩
    · exact h7 p (by omega)
  · simp only at e ⊢
    rw [if_neg (show p ≠ P + 1 by omega)] at e
    by_cases e2 : p = P
    · rw [if_pos e2]
    · rw [if_neg e2]
      rw [if_neg (by omega)] at e
      exact h8 p (by omega) e
def opN (N : Nm) (i P : Nat) (w v : Int) : Nm := upN (upN (upN (upN (upN (upN (upN N 13 i P w) 14 i P v) 15 i P 0) 12 i 0 (P + 1)) 12 i 4 w) 12 i 5 v) 12 i 6 1
section Build9
variable {K : Kx} {N : Nm} {g : Ge} {i : Nat}
theorem c_open {P : Nat} {w v : Int} {Pq : Nm → Ge → Prop} (hN0 : N 12 i 0 = P) (hP : P < g.2.2 i) (hr : g.2.2 i ≤ 16384) (hq : Pq (opN N i P w v) g) : Ck K YX1_open hX1_open [vr 12 i, vi w, vl v] N g (qV Pq) := by
  refine Ck.intro 0 (by decide) rfl ?_
  show AW _ _ _ _ _ [some (vr 12 i), some (vi w), some (vl v), none] _ _ _
  refine ld_a0 iX1_open_0 ?_
  refine gf_X1_starts kFX1_15 iX1_open_1 ?_
  refine ld_a0 iX1_open_4 ?_
  refine gf_X1_pieces kFX1_9 iX1_open_5 ?_
  rw [hN0]
  refine ld_i1 iX1_open_8 ?_
  refine as_13 rfl (by omega) (by omega) iX1_open_9 ?_
  refine ld_a0 iX1_open_10 ?_
  refine gf_X1_values kFX1_19 iX1_open_11 ?_
  refine ld_a0 iX1_open_14 ?_
  refine gf_X1_pieces kFX1_9 iX1_open_15 ?_
  rw [upN_k (by decide), hN0]
  refine ld_l2 iX1_open_18 ?_
  refine as_14 rfl (by omega) (by omega) iX1_open_19 ?_
  refine ld_a0 iX1_open_20 ?_
  refine gf_X1_gains kFX1_23 iX1_open_21 ?_
  refine ld_a0 iX1_open_24 ?_
  refine gf_X1_pieces kFX1_9 iX1_open_25 ?_
  rw [upN_k (by decide), upN_k (by decide), hN0]
  refine r_lconst (v := 0) (by decide) iX1_open_28 ?_
  refine as_15 rfl (by omega) (by omega) iX1_open_29 ?_
  refine ld_a0 iX1_open_30 ?_
  refine r_dup rfl iX1_open_31 ?_
  refine gf_X1_pieces kFX1_9 iX1_open_32 ?_
  rw [upN_k (by decide), upN_k (by decide), upN_k (by decide), hN0]
  refine r_iconst iX1_open_35 ?_
  refine r_iadd iX1_open_36 ?_
  refine pf_X1_pieces kFX1_9 iX1_open_37 ?_
  refine ld_a0 iX1_open_40 ?_
  refine ld_i1 iX1_open_41 ?_
  refine pf_X1_endWage kFX1_26 iX1_open_42 ?_
  refine ld_a0 iX1_open_45 ?_
  refine ld_l2 iX1_open_46 ?_
  refine pf_X1_endValue kFX1_29 iX1_open_47 ?_
  refine ld_a0 iX1_open_50 ?_
  refine r_iconst iX1_open_51 ?_
  refine pf_X1_alone (by omega) kFX1_33 iX1_open_52 ?_
  refine t_void rfl iX1_open_55 ?_
  exact hq
theorem c_makeRoom {P : Nat} {Pq : Nm → Ge → Prop} (hN0 : N 12 i 0 = P) (hP : P ≤ 10000) (hr : RmOK (g.2.2 i)) (hPr : P ≤ g.2.2 i) (hq : ∀ N' g', GeL i g g' → P + 2 ≤ g'.2.2 i → g.2.2 i ≤ g'.2.2 i → (∀ k a j, ¬ (13 ≤ k ∧ k ≤ 15 ∧ a = i ∧ g.2.2 i ≤ j) → N' k a j = N k a j) → Pq N' g') : Ck K YX1_makeRoom hX1_makeRoom [vr 12 i] N g (qV Pq) := by
  have hr1 : 16 ≤ g.2.2 i ∧ g.2.2 i ≤ 16384 := by omega
  refine Ck.intro 1 (by decide) rfl ?_
  show AW _ _ _ _ _ [some (vr 12 i), none] _ _ _
  refine ld_a0 iX1_makeRoom_0 ?_
  refine gf_X1_pieces kFX1_9 iX1_makeRoom_1 ?_
  rw [hN0]
  refine r_iconst iX1_makeRoom_4 ?_
  refine r_iadd iX1_makeRoom_5 ?_
  refine ld_a0 iX1_makeRoom_6 ?_
  refine gf_X1_starts kFX1_15 iX1_makeRoom_7 ?_
  refine an_13 iX1_makeRoom_10 ?_
  refine r_icmple iX1_makeRoom_11 (by omega) (by omega) (fun h11 => ?_) (fun h11 => ?_)
  · refine t_void rfl iX1_makeRoom_58 ?_
    exact hq N g (GeL.rf hr) (by omega) (Nat.le_refl _) (fun _ _ _ _ => rfl)
  · refine ld_a0 iX1_makeRoom_14 ?_
    refine gf_X1_starts kFX1_15 iX1_makeRoom_15 ?_
    refine an_13 iX1_makeRoom_18 ?_
    refine r_iconst iX1_makeRoom_19 ?_
    refine r_imul iX1_makeRoom_20 ?_
    refine sv_i1 (by decide) rfl iX1_makeRoom_21 ?_
    rw [show ((g.2.2 i : Nat) : Int) * 2 = ((2 * g.2.2 i : Nat) : Int) by omega]
    refine grow3 rfl hr1.1 (by omega) ?_
    refine t_void rfl iX1_makeRoom_58 ?_
    have eg : (gG g i (2 * g.2.2 i)).2.2 i = 2 * g.2.2 i := if_pos rfl
    refine hq _ _ ⟨rfl, rfl, fun a ha => if_neg ha, by rw [eg]; omega⟩ (by rw [eg]; omega) (by rw [eg]; omega) (fun k a j h => ?_)
    by_cases hj : j < g.2.2 i
    · exact NG3_lt hj
    · exact NG3_ne (by omega)
theorem opN_fr {P : Nat} {w v : Int} : FrL i N (opN N i P w v) := by
  unfold opN
  exact ((((((((FrL.rf i N).up (by omega)).up (by omega)).up (by omega)).up (by omega)).up (by omega)).up (by omega)).up (by omega))
theorem opN_rd {P : Nat} {w v : Int} (p : Nat) (hp : p ≠ P) : opN N i P w v 13 i p = N 13 i p ∧ opN N i P w v 14 i p = N 14 i p ∧ opN N i P w v 15 i p = N 15 i p := by
  simp [opN, upN, hp]
theorem opN_at {P : Nat} {w v : Int} : opN N i P w v 13 i P = w ∧ opN N i P w v 14 i P = v ∧ opN N i P w v 15 i P = 0 ∧ opN N i P w v 12 i 0 = P + 1 ∧ opN N i P w v 12 i 4 = w ∧ opN N i P w v 12 i 5 = v ∧ opN N i P w v 12 i 6 = 1 ∧ opN N i P w v 12 i 7 = N 12 i 7 := by
  simp [opN, upN]
theorem opN_bd {F : Nat → Int} {P : Nat} {s : Nat → Nat} {G : Nat → Int} {T : Nat} (hB : Bd N g i F P s G T) (ha : s (P - 1) + 1 ≠ T) (hd : F T - F (T - 1) ≠ G (P - 1)) (hr : P + 1 ≤ g.2.2 i) : Bd (opN N i P T (F T)) g i F (P + 1) (fun p => if p = P + 1 then T + 1 else s p) (fun p => if p = P then 0 else G p) (T + 1) := by
  obtain ⟨hN0, hRw, hN4, hN5, hN6, hN7, hPr, hRm, hPb⟩ := hB
  have hPT := hPb.2.2.2.1
  obtain ⟨o1, o2, o3, o4, o5, o6, o7, o8⟩ := opN_at (N := N) (i := i) (P := P) (w := T) (v := F T)
  refine ⟨by rw [o4]; omega, fun p hp => ?_, by rw [o5]; omega, by rw [o6]; rfl, ?_, by rw [o8]; exact hN7, hr, hRm, hPb.one ha hd⟩
  · simp only
    rw [if_neg (show p ≠ P + 1 by omega)]
    by_cases e : p = P
    · rw [e, o1, o2, o3, hPT, if_pos rfl]; exact ⟨rfl, rfl, rfl⟩
    · obtain ⟨q1, q2, q3⟩ := opN_rd (N := N) (i := i) (w := T) (v := F T) p e
      rw [q1, q2, q3, if_neg e]; exact hRw p (by omega)
  · rw [o7, if_pos]
    show (if P + 1 - 1 = P + 1 then T + 1 else s (P + 1 - 1)) + 1 = T + 1
    rw [if_neg (by omega), show P + 1 - 1 = P by omega, hPT]
theorem c_go {F : Nat → Int} {P : Nat} {s : Nat → Nat} {G : Nat → Int} {T n : Nat} {d : Int} {Pq : Nm → Ge → Prop} (hB : Bd N g i F P s G T) (hF : ∀ k : Nat, k ≤ n → F (T - 1 + k) = F (T - 1) + k * d) (hT : T + n ≤ 10000) (hb : ∀ p, p < P → rL (G p)) (hd : rL d) (hrm : P + 1 ≤ g.2.2 i)
    (hq : ∀ N' P' s' G', FrL i N N' → Bd N' g i F P' s' G' (T + n) → P ≤ P' → P' ≤ P + 1 → (∀ p, p < P' → (0 < n ∧ G' p = d) ∨ G' p = 0 ∨ (p < P ∧ G' p = G p)) → Pq N' g) : Ck K YX1_go hX1_go [vr 12 i, vl d, vi n] N g (qV Pq) := by
  have hB0 := hB
  obtain ⟨hN0, hRw, hN4, hN5, hN6, hN7, hPr, hRm, hPb⟩ := hB
  have h1 := hPb.1
  have h2 := hPb.2.1
  have h4 := hPb.2.2.2.1
  have hl := hPb.2.2.2.2.1 (P - 1) (by omega)
  rw [show P - 1 + 1 = P by omega, h4] at hl
  refine Ck.intro 1 (by decide) rfl ?_
  show AW _ _ _ _ _ [some (vr 12 i), some (vl d), none, some (vi n), none] _ _ _
  have tl : ∀ (N1 : Nm) (P1 : Nat) (s1 : Nat → Nat) (G1 : Nat → Int) (T1 r : Nat) (z : Int), z = r → FrL i N N1 → Bd N1 g i F P1 s1 G1 T1 → (0 < r → s1 (P1 - 1) + 1 = T1 ∨ G1 (P1 - 1) = d) → (∀ k : Nat, k ≤ r → F (T1 - 1 + k) = F (T1 - 1) + k * d) → T1 + r = T + n → (T ≤ T1 ∧ P ≤ P1) → P1 ≤ P + 1 → (∀ p, p < P1 → G1 p = 0 ∨ (p < P ∧ G1 p = G p)) → AW K YX1_go hX1_go (qV Pq) 50 [some (vr 12 i), some (vl d), none, some (vi n), some (vi z)] [] N1 g := by
    intro N1 P1 s1 G1 T1 r z hz k1 k2 k3 k4 k5 k6 k7 k8
    subst hz
    obtain ⟨n0, nR, n4, n5, n6, n7, nP, nM, nb⟩ := k2
    have b1 := nb.1
    have b2 := nb.2.1
    have b4 := nb.2.2.2.1
    have bl := nb.2.2.2.2.1 (P1 - 1) (by omega)
    rw [show P1 - 1 + 1 = P1 by omega, b4] at bl
    refine ld_i4 iX1_go_50 ?_
    refine r_ifle iX1_go_52 (by omega) (fun h52 => ?_) (fun h52 => ?_)
    · have e : r = 0 := by omega
      subst e
      refine t_void rfl iX1_go_97 ?_
      first
        | exact hq N1 P1 s1 G1 k1 ⟨n0, nR, by rw [n4]; omega, by rw [n5]; congr 1; omega, by rw [n6]; congr 1; rw [← k5]; rfl, n7, nP, nM, k5 ▸ nb⟩ k6.2 k7 (fun p q => Or.inr (k8 p q))
        | (have hmore := nb.more (by omega) k4 (k3 (by omega))
           refine hq _ P1 _ _ (((((k1.up (by omega)).up (by omega)).up (by omega)).up (by omega))) ⟨?_, fun p hp => ?_, ?_, ?_, ?_, ?_, nP, nM, k5 ▸ hmore⟩ k6.2 k7 (fun p q => ?_)
           · simp [upN]; exact n0
           · rw [if_neg (show p ≠ P1 by omega)]
             by_cases e : p = P1 - 1
             · rw [if_pos e]; simp [upN, e]; rw [← e]; exact ⟨(nR p hp).1, (nR p hp).2.1⟩
             · rw [if_neg e]; simp [upN, e]; exact nR p hp
           · simp [upN]; omega
           · simp [upN]; rw [← k5, show T1 + r - 1 = T1 - 1 + r by omega, k4 r (Nat.le_refl _)]
           · rw [if_neg (by rw [if_neg (show P1 - 1 ≠ P1 by omega)]; omega)]; simp [upN]
           · simp [upN]; exact n7
           · split
             · exact Or.inl ⟨by omega, rfl⟩
             · exact Or.inr (k8 p q))
    · refine ld_a0 iX1_go_55 ?_
      refine gf_X1_gains kFX1_23 iX1_go_56 ?_
      refine ld_a0 iX1_go_59 ?_
      refine gf_X1_pieces kFX1_9 iX1_go_60 ?_
      refine r_iconst iX1_go_63 ?_
      refine r_isub iX1_go_64 ?_
      rw [n0]
      refine ld_l1 iX1_go_65 ?_
      refine as_15 (n := (P1 - 1)) (by omega) (by omega) (by omega) iX1_go_66 ?_
      refine ld_a0 iX1_go_67 ?_
      refine r_iconst iX1_go_68 ?_
      refine pf_X1_alone (by omega) kFX1_33 iX1_go_69 ?_
      refine ld_a0 iX1_go_72 ?_
      refine r_dup rfl iX1_go_73 ?_
      refine gf_X1_endWage kFX1_26 iX1_go_74 ?_
      rw [upN_j (by decide), upN_k (by decide), n4]
      refine ld_i4 iX1_go_77 ?_
      refine r_iadd iX1_go_79 ?_
      refine pf_X1_endWage kFX1_26 iX1_go_80 ?_
      refine ld_a0 iX1_go_83 ?_
      refine r_dup rfl iX1_go_84 ?_
      refine gf_X1_endValue kFX1_29 iX1_go_85 ?_
      rw [upN_j (by decide), upN_j (by decide), upN_k (by decide), n5]
      refine ld_i4 iX1_go_88 ?_
      refine r_i2l (by omega) iX1_go_90 ?_
      refine ld_l1 iX1_go_91 ?_
      refine r_lmul iX1_go_92 ?_
      refine r_ladd iX1_go_93 ?_
      refine pf_X1_endValue kFX1_29 iX1_go_94 ?_
      refine t_void rfl iX1_go_97 ?_
      first
        | exact hq N1 P1 s1 G1 k1 ⟨n0, nR, by rw [n4]; omega, by rw [n5]; congr 1; omega, by rw [n6]; congr 1; rw [← k5]; rfl, n7, nP, nM, k5 ▸ nb⟩ k6.2 k7 (fun p q => Or.inr (k8 p q))
        | (have hmore := nb.more (by omega) k4 (k3 (by omega))
           refine hq _ P1 _ _ (((((k1.up (by omega)).up (by omega)).up (by omega)).up (by omega))) ⟨?_, fun p hp => ?_, ?_, ?_, ?_, ?_, nP, nM, k5 ▸ hmore⟩ k6.2 k7 (fun p q => ?_)
           · simp [upN]; exact n0
           · rw [if_neg (show p ≠ P1 by omega)]
             by_cases e : p = P1 - 1
             · rw [if_pos e]; simp [upN, e]; rw [← e]; exact ⟨(nR p hp).1, (nR p hp).2.1⟩
             · rw [if_neg e]; simp [upN, e]; exact nR p hp
           · simp [upN]; omega
           · simp [upN]; rw [← k5, show T1 + r - 1 = T1 - 1 + r by omega, k4 r (Nat.le_refl _)]
           · rw [if_neg (by rw [if_neg (show P1 - 1 ≠ P1 by omega)]; omega)]; simp [upN]
           · simp [upN]; exact n7
           · split
             · exact Or.inl ⟨by omega, rfl⟩
             · exact Or.inr (k8 p q))
  have hG := hb (P - 1) (by omega)
  have hFT : 0 < n → F T = F (T - 1) + d := fun q => by
    have := hF 1 (by omega)
    rw [show T - 1 + 1 = T by omega, show ((1 : Nat) : Int) = 1 from rfl, Int.one_mul] at this
    exact this
  refine ld_i3 iX1_go_0 ?_
  refine sv_i4 (by decide) rfl iX1_go_1 ?_
  refine ld_i4 iX1_go_3 ?_
  refine r_ifle iX1_go_5 (by omega) (fun h5 => ?_) (fun h5 => ?_)
  · first
      | exact tl N P s G T n _ rfl (FrL.rf i N) hB0 (fun q => by first | omega | exact Or.inr h27 | (revert h12; split <;> omega)) hF rfl ⟨Nat.le_refl _, Nat.le_refl _⟩ (by omega) (fun p q => Or.inr ⟨q, rfl⟩)
      | (have ha : s (P - 1) + 1 ≠ T := by intro q; rw [if_pos q] at h12; omega
         refine tl _ (P + 1) _ _ (T + 1) (n - 1) _ (by omega) opN_fr (opN_bd hB0 ha (by rw [hFT (by omega)]; omega) hrm) (fun q => Or.inl ?_) (fun k hk => ?_) (by omega) ⟨by omega, by omega⟩ (by omega) (fun p q => ?_)
         · show (if P + 1 - 1 = P + 1 then T + 1 else s (P + 1 - 1)) + 1 = T + 1
           rw [if_neg (by omega), show P + 1 - 1 = P by omega, h4]
         · have y := hF (k + 1) (by omega)
           rw [show T - 1 + (k + 1) = T + 1 - 1 + k by omega, show ((k + 1 : Nat) : Int) = (k : Int) + 1 by omega, lin_step] at y
           rw [y, show T + 1 - 1 = T by omega, hFT (by omega)]; omega
         · by_cases e : p = P
           · exact Or.inl (if_pos e)
           · exact Or.inr ⟨by omega, if_neg e⟩)
  · refine ld_a0 iX1_go_8 ?_
    refine gf_X1_alone kFX1_33 iX1_go_9 ?_
    rw [hN6]
    refine r_ifne iX1_go_12 (by split <;> omega) (fun h12 => ?_) (fun h12 => ?_)
    · first
        | exact tl N P s G T n _ rfl (FrL.rf i N) hB0 (fun q => by first | omega | exact Or.inr h27 | (revert h12; split <;> omega)) hF rfl ⟨Nat.le_refl _, Nat.le_refl _⟩ (by omega) (fun p q => Or.inr ⟨q, rfl⟩)
        | (have ha : s (P - 1) + 1 ≠ T := by intro q; rw [if_pos q] at h12; omega
           refine tl _ (P + 1) _ _ (T + 1) (n - 1) _ (by omega) opN_fr (opN_bd hB0 ha (by rw [hFT (by omega)]; omega) hrm) (fun q => Or.inl ?_) (fun k hk => ?_) (by omega) ⟨by omega, by omega⟩ (by omega) (fun p q => ?_)
           · show (if P + 1 - 1 = P + 1 then T + 1 else s (P + 1 - 1)) + 1 = T + 1
             rw [if_neg (by omega), show P + 1 - 1 = P by omega, h4]
           · have y := hF (k + 1) (by omega)
             rw [show T - 1 + (k + 1) = T + 1 - 1 + k by omega, show ((k + 1 : Nat) : Int) = (k : Int) + 1 by omega, lin_step] at y
             rw [y, show T + 1 - 1 = T by omega, hFT (by omega)]; omega
           · by_cases e : p = P
             · exact Or.inl (if_pos e)
             · exact Or.inr ⟨by omega, if_neg e⟩)
    · refine ld_a0 iX1_go_15 ?_
      refine gf_X1_gains kFX1_23 iX1_go_16 ?_
      refine ld_a0 iX1_go_19 ?_
      refine gf_X1_pieces kFX1_9 iX1_go_20 ?_
      refine r_iconst iX1_go_23 ?_
      refine r_isub iX1_go_24 ?_
      rw [hN0]
      refine al_15 (n := (P - 1)) (by omega) (by omega) (by omega) iX1_go_25 ?_
      rw [(hRw (P - 1) (by omega)).2.2]
      refine ld_l1 iX1_go_26 ?_
      refine r_lceq iX1_go_27 iX1_go_28 (by omega) (by omega) (fun h27 => ?_) (fun h27 => ?_)
      · first
          | exact tl N P s G T n _ rfl (FrL.rf i N) hB0 (fun q => by first | omega | exact Or.inr h27 | (revert h12; split <;> omega)) hF rfl ⟨Nat.le_refl _, Nat.le_refl _⟩ (by omega) (fun p q => Or.inr ⟨q, rfl⟩)
          | (have ha : s (P - 1) + 1 ≠ T := by intro q; rw [if_pos q] at h12; omega
             refine tl _ (P + 1) _ _ (T + 1) (n - 1) _ (by omega) opN_fr (opN_bd hB0 ha (by rw [hFT (by omega)]; omega) hrm) (fun q => Or.inl ?_) (fun k hk => ?_) (by omega) ⟨by omega, by omega⟩ (by omega) (fun p q => ?_)
             · show (if P + 1 - 1 = P + 1 then T + 1 else s (P + 1 - 1)) + 1 = T + 1
               rw [if_neg (by omega), show P + 1 - 1 = P by omega, h4]
             · have y := hF (k + 1) (by omega)
               rw [show T - 1 + (k + 1) = T + 1 - 1 + k by omega, show ((k + 1 : Nat) : Int) = (k : Int) + 1 by omega, lin_step] at y
               rw [y, show T + 1 - 1 = T by omega, hFT (by omega)]; omega
             · by_cases e : p = P
               · exact Or.inl (if_pos e)
               · exact Or.inr ⟨by omega, if_neg e⟩)
      · refine ld_a0 iX1_go_31 ?_
        refine ld_a0 iX1_go_32 ?_
        refine gf_X1_endWage kFX1_26 iX1_go_33 ?_
        rw [hN4]
        refine r_iconst iX1_go_36 ?_
        refine r_iadd iX1_go_37 ?_
        refine ld_a0 iX1_go_38 ?_
        refine gf_X1_endValue kFX1_29 iX1_go_39 ?_
        rw [hN5]
        refine ld_l1 iX1_go_42 ?_
        refine r_ladd iX1_go_43 ?_
        rw [show (T : Int) - 1 + 1 = T by omega, ← hFT (by omega)]
        refine xX1_open kMX1_40 iX1_go_44 (by decide) (Nat.le_of_ble_eq_true rfl) rfl rfl ?_
        refine c_open hN0 (by omega) (by omega) ?_
        refine inc_4 (by decide) rfl iX1_go_47 ?_
        first
          | exact tl N P s G T n _ rfl (FrL.rf i N) hB0 (fun q => by first | omega | exact Or.inr h27 | (revert h12; split <;> omega)) hF rfl ⟨Nat.le_refl _, Nat.le_refl _⟩ (by omega) (fun p q => Or.inr ⟨q, rfl⟩)
          | (have ha : s (P - 1) + 1 ≠ T := by intro q; rw [if_pos q] at h12; omega
             refine tl _ (P + 1) _ _ (T + 1) (n - 1) _ (by omega) opN_fr (opN_bd hB0 ha (by rw [hFT (by omega)]; omega) hrm) (fun q => Or.inl ?_) (fun k hk => ?_) (by omega) ⟨by omega, by omega⟩ (by omega) (fun p q => ?_)
             · show (if P + 1 - 1 = P + 1 then T + 1 else s (P + 1 - 1)) + 1 = T + 1
               rw [if_neg (by omega), show P + 1 - 1 = P by omega, h4]
             · have y := hF (k + 1) (by omega)
               rw [show T - 1 + (k + 1) = T + 1 - 1 + k by omega, show ((k + 1 : Nat) : Int) = (k : Int) + 1 by omega, lin_step] at y
               rw [y, show T + 1 - 1 = T by omega, hFT (by omega)]; omega
             · by_cases e : p = P
               · exact Or.inl (if_pos e)
               · exact Or.inr ⟨by omega, if_neg e⟩)
theorem Bd.kept {F : Nat → Int} {P : Nat} {s : Nat → Nat} {G : Nat → Int} {T : Nat} {N' : Nm} {g' : Ge} (hB : Bd N g i F P s G T) (hg : GeL i g g') (hr : g.2.2 i ≤ g'.2.2 i) (hN : ∀ k a j, ¬ (13 ≤ k ∧ k ≤ 15 ∧ a = i ∧ g.2.2 i ≤ j) → N' k a j = N k a j) : Bd N' g' i F P s G T := by
  obtain ⟨hN0, hRw, hN4, hN5, hN6, hN7, hPr, hRm, hPb⟩ := hB
  refine ⟨by rw [hN 12 i 0 (by omega)]; exact hN0, fun p hp => ?_, by rw [hN 12 i 4 (by omega)]; exact hN4, by rw [hN 12 i 5 (by omega)]; exact hN5, by rw [hN 12 i 6 (by omega)]; exact hN6, by rw [hN 12 i 7 (by omega)]; exact hN7, by omega, hg.2.2.2, hPb⟩
  rw [hN 13 i p (by omega), hN 14 i p (by omega), hN 15 i p (by omega)]; exact hRw p hp
theorem c_addStretch {F : Nat → Int} {P : Nat} {s : Nat → Nat} {G : Nat → Int} {w f : Nat} {d : Int} {Pq : Nm → Ge → Prop} (hBF : ∀ u, u < 10000 → bF (F u)) (hF : ∀ k : Nat, k ≤ f → F (w + k) = F w + k * d) (hw : w + f < 10000) (hd : rL d) (hRm : RmOK (g.2.2 i))
    (hB : 0 < w → Bd N g i F P s G w ∧ ∀ p, p < P → -1000000000000000000 ≤ G p ∧ G p ≤ 1000000000000000000)
    (hq : ∀ N' g' P' s' G', FrL i N N' → GeL i g g' → Bd N' g' i F P' s' G' (w + f + 1) → (∀ p, p < P' → -1000000000000000000 ≤ G' p ∧ G' p ≤ 1000000000000000000) → Pq N' g') : Ck K YX1_addStretch hX1_addStretch [vr 12 i, vi w, vl (F w), vl d, vi f] N g (qV Pq) := by
  refine Ck.intro 0 (by decide) rfl ?_
  show AW _ _ _ _ _ [some (vr 12 i), some (vi w), some (vl (F w)), none, some (vl d), none, some (vi f)] _ _ _
  have hdb : 0 < f → -1000000000000000000 ≤ d ∧ d ≤ 1000000000000000000 := fun q => by
    have y := hF 1 (by omega)
    have y1 := hBF (w + 1) (by omega)
    have y2 := hBF w (by omega)
    rw [show ((1 : Nat) : Int) = 1 from rfl, Int.one_mul] at y
    omega
  have hbw := hBF w (by omega)
  have tl : ∀ (N1 : Nm) (g1 : Ge) (P1 : Nat) (s1 : Nat → Nat) (G1 : Nat → Int), FrL i N N1 → GeL i g g1 → Bd N1 g1 i F P1 s1 G1 (w + 1) → (∀ p, p < P1 → -1000000000000000000 ≤ G1 p ∧ G1 p ≤ 1000000000000000000) → P1 + 1 ≤ g1.2.2 i → AW K YX1_addStretch hX1_addStretch (qV Pq) 38 [some (vr 12 i), some (vi w), some (vl (F w)), none, some (vl d), none, some (vi f)] [] N1 g1 := by
    intro N1 g1 P1 s1 G1 k1 k2 k3 k4 k5
    refine ld_a0 iX1_addStretch_38 ?_
    refine ld_l4 iX1_addStretch_39 ?_
    refine ld_i6 iX1_addStretch_41 ?_
    refine xX1_go kMX1_47 iX1_addStretch_43 (by decide) (Nat.le_of_ble_eq_true rfl) rfl rfl ?_
    refine c_go k3 (fun k hk => by rw [show w + 1 - 1 + k = w + k by omega, show w + 1 - 1 = w by omega]; exact hF k hk) (by omega) (fun p hp => by have := k4 p hp; omega) hd k5 (fun N2 P2 s2 G2 j1 j2 j3 j4 j5 => ?_)
    refine t_void rfl iX1_addStretch_46 ?_
    refine hq _ _ P2 s2 G2 (k1.tr j1) k2 (by rw [show w + f + 1 = w + 1 + f by omega]; exact j2) (fun p hp => ?_)
    rcases j5 p hp with ⟨q, e⟩ | e | ⟨q, e⟩
    · rw [e]; exact hdb q
    · rw [e]; omega
    · rw [e]; exact k4 p q
  refine ld_i1 iX1_addStretch_0 ?_
  refine r_ifne iX1_addStretch_1 (by omega) (fun h1 => ?_) (fun h1 => ?_)
  · obtain ⟨hB, hG⟩ := hB (by omega)
    have hPw := hB.2.2.2.2.2.2.2.2.2.1
    refine ld_a0 iX1_addStretch_23 ?_
    refine xX1_makeRoom kMX1_44 iX1_addStretch_24 (by decide) (Nat.le_of_ble_eq_true rfl) rfl rfl ?_
    refine c_makeRoom hB.1 (by omega) hRm hB.2.2.2.2.2.2.1 (fun N1 g1 j1 j2 j3 j4 => ?_)
    have hB1 := hB.kept j1 j3 j4
    have hbe := hBF (w - 1) (by omega)
    refine ld_a0 iX1_addStretch_27 ?_
    refine ld_l2 iX1_addStretch_28 ?_
    refine ld_a0 iX1_addStretch_29 ?_
    refine gf_X1_endValue kFX1_29 iX1_addStretch_30 ?_
    rw [hB1.2.2.2.1]
    refine r_lsub iX1_addStretch_33 ?_
    refine r_iconst iX1_addStretch_34 ?_
    refine xX1_go kMX1_47 iX1_addStretch_35 (by decide) (Nat.le_of_ble_eq_true rfl) rfl rfl ?_
    refine c_go (n := 1) hB1 (fun k hk => ?_) (by omega) (fun p hp => by have := hG p hp; omega) (by omega) (by omega) (fun N2 P2 s2 G2 i1 i2 i3 i4 i5 => ?_)
    · rcases Nat.lt_or_ge k 1 with q | q
      · rw [show k = 0 by omega]; simp
      · rw [show k = 1 by omega, show w - 1 + 1 = w by omega]; simp; omega
    first
      | (refine tl _ _ P2 s2 G2 (FrL.tr (fun k a j q => j4 k a j (by omega)) i1) j1 i2 (fun p hp => ?_) (by omega)
         rcases i5 p hp with ⟨q, e⟩ | e | ⟨q, e⟩
         · rw [e]; omega
         · rw [e]; omega
         · rw [e]; exact hG p q)
      | (refine tl _ _ 1 (fun p => p) (fun _ => 0) ((((FrL.rf i N).up (by omega)).up (by omega)).tr opN_fr) (GeL.rf hRm) ⟨?_, ?_, ?_, ?_, ?_, ?_, by omega, hRm, ?_⟩ (fun p hp => by omega) (by omega)
         · simp [opN, upN]
         · intro p hp; rw [show p = 0 by omega]; simp [opN, upN]
         · simp [opN, upN]
         · simp [opN, upN]
         · simp [opN, upN]
         · simp [opN, upN]
         · refine ⟨by omega, by omega, rfl, rfl, fun p _ => Nat.lt_succ_self p, fun p hp u u1 u2 => ?_, fun p hp => by omega, fun _ _ _ => rfl⟩
           have u1 : p ≤ u := u1
           have u2 : u < p + 1 := u2
           rw [show u = p by omega]; simp)
  · have e : w = 0 := by omega
    subst e
    refine ld_a0 iX1_addStretch_4 ?_
    refine r_iconst iX1_addStretch_5 ?_
    refine pf_X1_pieces kFX1_9 iX1_addStretch_6 ?_
    refine ld_a0 iX1_addStretch_9 ?_
    refine r_iconst iX1_addStretch_10 ?_
    refine pf_X1_seat kFX1_37 iX1_addStretch_11 ?_
    refine ld_a0 iX1_addStretch_14 ?_
    refine r_iconst iX1_addStretch_15 ?_
    refine ld_l2 iX1_addStretch_16 ?_
    refine xX1_open kMX1_40 iX1_addStretch_17 (by decide) (Nat.le_of_ble_eq_true rfl) rfl rfl ?_
    refine c_open (P := 0) (by simp [upN]) (by omega) (by omega) ?_
    refine r_goto iX1_addStretch_20 ?_
    first
      | (refine tl _ _ P2 s2 G2 (FrL.tr (fun k a j q => j4 k a j (by omega)) i1) j1 i2 (fun p hp => ?_) (by omega)
         rcases i5 p hp with ⟨q, e⟩ | e | ⟨q, e⟩
         · rw [e]; omega
         · rw [e]; omega
         · rw [e]; exact hG p q)
      | (refine tl _ _ 1 (fun p => p) (fun _ => 0) ((((FrL.rf i N).up (by omega)).up (by omega)).tr opN_fr) (GeL.rf hRm) ⟨?_, ?_, ?_, ?_, ?_, ?_, by omega, hRm, ?_⟩ (fun p hp => by omega) (by omega)
         · simp [opN, upN]
         · intro p hp; rw [show p = 0 by omega]; simp [opN, upN]
         · simp [opN, upN]
         · simp [opN, upN]
         · simp [opN, upN]
         · simp [opN, upN]
         · refine ⟨by omega, by omega, rfl, rfl, fun p _ => Nat.lt_succ_self p, fun p hp u u1 u2 => ?_, fun p hp => by omega, fun _ _ _ => rfl⟩
           have u1 : p ≤ u := u1
           have u2 : u < p + 1 := u2
           rw [show u = p by omega]; simp)
theorem Bd.ln {F : Nat → Int} {P : Nat} {s : Nat → Nat} {G : Nat → Int} (hB : Bd N g i F P s G 10000) (hBF : ∀ u, u < 10000 → bF (F u)) (hG : ∀ p, p < P → -1000000000000000000 ≤ G p ∧ G p ≤ 1000000000000000000) : Ln N g i F P s G ∧ Cn F P s G := by
  obtain ⟨hN0, hRw, hN4, hN5, hN6, hN7, hPr, hRm, h1, h2, h3, h4, h5, h6, h7, h8⟩ := hB
  exact ⟨⟨hN0, hRw, by rw [hN7]; omega, by omega, hBF, h1, h2, h3, h4, h5, h6, hG⟩, h7, h8⟩
theorem Ln.frl {F : Nat → Int} {P : Nat} {s : Nat → Nat} {G : Nat → Int} {N' : Nm} {g' : Ge} {a : Nat} (h : Ln N g a F P s G) (hN : FrL i N N') (hg : GeL i g g') (hi : a ≠ i) : Ln N' g' a F P s G := by
  obtain ⟨h1, h2, h3, h4, h5⟩ := h
  refine ⟨by rw [hN 12 a 0 (by omega)]; exact h1, fun p hp => ?_, by rw [hN 12 a 7 (by omega)]; exact h3, by rw [hg.2.2.1 a hi]; exact h4, h5⟩
  rw [hN 13 a p (by omega), hN 14 a p (by omega), hN 15 a p (by omega)]; exact h2 p hp
theorem c_becomeDifference {i1 i2 : Nat} {F1 F2 : Nat → Int} {P1 P2 : Nat} {s1 s2 : Nat → Nat} {G1 G2 : Nat → Int} {Pq : Nm → Ge → Prop} (hL1 : Ln N g i1 F1 P1 s1 G1) (hL2 : Ln N g i2 F2 P2 s2 G2) (hi1 : i1 ≠ i) (hi2 : i2 ≠ i) (hRm : RmOK (g.2.2 i)) (hBF : ∀ u, u < 10000 → bF (F1 u - F2 u))
    (hq : ∀ N' g' P' s' G', FrL i N N' → GeL i g g' → Ln N' g' i (fun w => F1 w - F2 w) P' s' G' → Cn (fun w => F1 w - F2 w) P' s' G' → Pq N' g') : Ck K YX1_becomeDifference hX1_becomeDifference [vr 12 i, vr 12 i1, vr 12 i2] N g (qV Pq) := by
  refine Ck.intro 6 (by decide) rfl ?_
  show AW _ _ _ _ _ [some (vr 12 i), some (vr 12 i1), some (vr 12 i2), none, none, none, none, none, none] _ _ _
  have loop : ∀ (n w p1 p2 : Nat) (a b c : Int) (N' : Nm) (g' : Ge) (P : Nat) (s : Nat → Nat) (G : Nat → Int), 10000 - w = n → w ≤ 10000 → a = p1 → b = p2 → FrL i N N' → GeL i g g' → p1 < P1 → p2 < P2 → (w < 10000 → s1 p1 ≤ w ∧ w < s1 (p1 + 1) ∧ s2 p2 ≤ w ∧ w < s2 (p2 + 1)) → (0 < w → Bd N' g' i (fun w => F1 w - F2 w) P s G w ∧ ∀ p, p < P → -1000000000000000000 ≤ G p ∧ G p ≤ 1000000000000000000) →
      AW K YX1_becomeDifference hX1_becomeDifference (qV Pq) 11 [some (vr 12 i), some (vr 12 i1), some (vr 12 i2), some (vi a), some (vi b), some (vi c), some (vi w), none, none] [] N' g' := by
    intro n
    induction n using Nat.strongRecOn with
    | _ n ih =>
      intro w p1 p2 a b c N' g' P s G e hw ha hb k1 k2 hp1 hp2 hin hB
      subst ha
      subst hb
      have hM1 := hL1.frl k1 k2 hi1
      have hM2 := hL2.frl k1 k2 hi2
      have hc1 := hM1.2.2.2.2.2
      have hc2 := hM2.2.2.2.2.2
      have ht1 := hc1.top (show p1 + 1 ≤ P1 by omega)
      have ht2 := hc2.top (show p2 + 1 ≤ P2 by omega)
      have hq1 := hc1.2.1
      have hq2 := hc2.2.1
      refine ld_i6 iX1_becomeDifference_11 ?_
      refine r_sipush (by decide) iX1_becomeDifference_13 ?_
      refine r_icmpgt iX1_becomeDifference_16 (by omega) (by omega) (fun h16 => ?_) (fun h16 => ?_)
      · refine t_void rfl iX1_becomeDifference_137 ?_
        have e : w = 10000 := by omega
        rw [e] at hB
        obtain ⟨hB, hG⟩ := hB (by omega)
        obtain ⟨y1, y2⟩ := hB.ln hBF hG
        exact hq _ _ P s G k1 k2 y1 y2
      · obtain ⟨z1, z2, z3, z4⟩ := hin (by omega)
        obtain ⟨l, hl⟩ : ∃ l : Nat, l + 1 = min (s1 (p1 + 1)) (s2 (p2 + 1)) := ⟨min (s1 (p1 + 1)) (s2 (p2 + 1)) - 1, by omega⟩
        have hg1 := hc1.2.2.2.2.2.2 p1 hp1
        have hg2 := hc2.2.2.2.2.2.2 p2 hp2
        refine ld_a1 iX1_becomeDifference_19 ?_
        refine ld_i3 iX1_becomeDifference_20 ?_
        refine xX1_lastOf kMX1_60 iX1_becomeDifference_21 (by decide) (Nat.le_of_ble_eq_true rfl) rfl rfl ?_
        refine c_lastOf hM1 hp1 ?_
        refine ld_a2 iX1_becomeDifference_24 ?_
        refine ld_i4 iX1_becomeDifference_25 ?_
        refine xX1_lastOf kMX1_60 iX1_becomeDifference_27 (by decide) (Nat.le_of_ble_eq_true rfl) rfl rfl ?_
        refine c_lastOf hM2 hp2 ?_
        refine xJ9_min_7cf53 kMX1_64 iX1_becomeDifference_30 (by decide) (Nat.le_of_ble_eq_true rfl) rfl rfl ?_
        refine c_minI (by omega) (by omega) ?_
        rw [show min ((s1 (p1 + 1) : Int) - 1) ((s2 (p2 + 1) : Int) - 1) = l by omega]
        refine sv_i5 (by decide) rfl iX1_becomeDifference_33 ?_
        refine ld_a1 iX1_becomeDifference_35 ?_
        refine ld_i3 iX1_becomeDifference_36 ?_
        refine ld_i6 iX1_becomeDifference_37 ?_
        refine xX1_valueIn kMX1_70 iX1_becomeDifference_39 (by decide) (Nat.le_of_ble_eq_true rfl) rfl rfl ?_
        refine c_valueIn hM1 hp1 z1 z2 ?_
        refine ld_a2 iX1_becomeDifference_42 ?_
        refine ld_i4 iX1_becomeDifference_43 ?_
        refine ld_i6 iX1_becomeDifference_45 ?_
        refine xX1_valueIn kMX1_70 iX1_becomeDifference_47 (by decide) (Nat.le_of_ble_eq_true rfl) rfl rfl ?_
        refine c_valueIn hM2 hp2 z3 z4 ?_
        refine r_lsub iX1_becomeDifference_50 ?_
        refine sv_l7 (by decide) rfl iX1_becomeDifference_51 ?_
        refine ld_a0 iX1_becomeDifference_53 ?_
        refine ld_i6 iX1_becomeDifference_54 ?_
        refine ld_l7 iX1_becomeDifference_56 ?_
        refine ld_a1 iX1_becomeDifference_58 ?_
        refine gf_X1_gains kFX1_23 iX1_becomeDifference_59 ?_
        refine ld_i3 iX1_becomeDifference_62 ?_
        refine al_15 rfl (by have y := hM1.2.2.2.1; omega) (by have y := hM1.2.2.2.1; omega) iX1_becomeDifference_63 ?_
        rw [(hM1.2.1 p1 hp1).2.2]
        refine ld_a2 iX1_becomeDifference_64 ?_
        refine gf_X1_gains kFX1_23 iX1_becomeDifference_65 ?_
        refine ld_i4 iX1_becomeDifference_68 ?_
        refine al_15 rfl (by have y := hM2.2.2.2.1; omega) (by have y := hM2.2.2.2.1; omega) iX1_becomeDifference_70 ?_
        rw [(hM2.2.1 p2 hp2).2.2]
        refine r_lsub iX1_becomeDifference_71 ?_
        refine ld_i5 iX1_becomeDifference_72 ?_
        refine ld_i6 iX1_becomeDifference_74 ?_
        refine r_isub iX1_becomeDifference_76 ?_
        rw [show (l : Int) - w = ((l - w : Nat) : Int) by omega]
        refine xX1_addStretch kMX1_74 iX1_becomeDifference_77 (by decide) (Nat.le_of_ble_eq_true rfl) rfl rfl ?_
        refine c_addStretch (F := fun w => F1 w - F2 w) hBF (fun k hk => ?_) (by omega) (by omega) k2.2.2.2 hB (fun N2 g2 P3 s3 G3 i1' i2' i3' i4' => ?_)
        · have y1 := hc1.lin2 hp1 z1 (show w ≤ w + k by omega) (by omega)
          have y2 := hc2.lin2 hp2 z3 (show w ≤ w + k by omega) (by omega)
          rw [show ((w + k : Nat) : Int) - w = k by omega] at y1 y2
          show F1 (w + k) - F2 (w + k) = F1 w - F2 w + k * (G1 p1 - G2 p2)
          rw [y1, y2, Int.mul_sub]; omega
        have hR1 := hM1.frl i1' i2' hi1
        have hR2 := hM2.frl i1' i2' hi2
        rw [show w + (l - w) + 1 = l + 1 by omega] at i3'
        refine ld_a1 iX1_becomeDifference_80 ?_
        refine ld_i3 iX1_becomeDifference_81 ?_
        refine xX1_lastOf kMX1_60 iX1_becomeDifference_82 (by decide) (Nat.le_of_ble_eq_true rfl) rfl rfl ?_
        refine c_lastOf hR1 hp1 ?_
        refine ld_i5 iX1_becomeDifference_85 ?_
        refine r_icmpne iX1_becomeDifference_87 (by omega) (by omega) (fun h87 => ?_) (fun h87 => ?_)
        · refine ld_a2 iX1_becomeDifference_103 ?_
          refine ld_i4 iX1_becomeDifference_104 ?_
          refine xX1_lastOf kMX1_60 iX1_becomeDifference_106 (by decide) (Nat.le_of_ble_eq_true rfl) rfl rfl ?_
          refine c_lastOf hR2 hp2 ?_
          refine ld_i5 iX1_becomeDifference_109 ?_
          refine r_icmpne iX1_becomeDifference_111 (by omega) (by omega) (fun h111 => ?_) (fun h111 => ?_)
          · refine ld_i5 iX1_becomeDifference_128 ?_
            refine r_iconst iX1_becomeDifference_130 ?_
            refine r_iadd iX1_becomeDifference_131 ?_
            refine sv_i6 (by decide) rfl iX1_becomeDifference_132 ?_
            refine r_goto iX1_becomeDifference_134 ?_
            refine fg_7 ?_
            have e1 : p1 + 1 = P1 → s1 (p1 + 1) = 10000 := fun q => by rw [q]; exact hc1.2.2.2.1
            have e2 : p2 + 1 = P2 → s2 (p2 + 1) = 10000 := fun q => by rw [q]; exact hc2.2.2.2.1
            have m1 := hc1.2.2.2.2.1 (p1 + 1)
            have m2 := hc2.2.2.2.2.1 (p2 + 1)
            first
              | exact ih (10000 - (l + 1)) (by omega) (l + 1) p1 p2 _ _ _ N2 g2 P3 s3 G3 rfl (by omega) (by omega) (by omega) (k1.tr i1') (k2.tr i2') hp1 hp2 (fun q => by omega) (fun _ => ⟨i3', i4'⟩)
              | exact ih (10000 - (l + 1)) (by omega) (l + 1) (p1 + 1) p2 _ _ _ N2 g2 P3 s3 G3 rfl (by omega) (by omega) (by omega) (k1.tr i1') (k2.tr i2') (by omega) hp2 (fun q => by omega) (fun _ => ⟨i3', i4'⟩)
              | exact ih (10000 - (l + 1)) (by omega) (l + 1) p1 (p2 + 1) _ _ _ N2 g2 P3 s3 G3 rfl (by omega) (by omega) (by omega) (k1.tr i1') (k2.tr i2') hp1 (by omega) (fun q => by omega) (fun _ => ⟨i3', i4'⟩)
              | exact ih (10000 - (l + 1)) (by omega) (l + 1) (p1 + 1) (p2 + 1) _ _ _ N2 g2 P3 s3 G3 rfl (by omega) (by omega) (by omega) (k1.tr i1') (k2.tr i2') (by omega) (by omega) (fun q => by omega) (fun _ => ⟨i3', i4'⟩)
          · refine ld_i4 iX1_becomeDifference_114 ?_
            refine r_iconst iX1_becomeDifference_116 ?_
            refine r_iadd iX1_becomeDifference_117 ?_
            refine ld_a2 iX1_becomeDifference_118 ?_
            refine gf_X1_pieces kFX1_9 iX1_becomeDifference_119 ?_
            rw [hR2.1]
            refine r_icmpge iX1_becomeDifference_122 (by omega) (by omega) (fun h122 => ?_) (fun h122 => ?_)
            · refine ld_i5 iX1_becomeDifference_128 ?_
              refine r_iconst iX1_becomeDifference_130 ?_
              refine r_iadd iX1_becomeDifference_131 ?_
              refine sv_i6 (by decide) rfl iX1_becomeDifference_132 ?_
              refine r_goto iX1_becomeDifference_134 ?_
              refine fg_7 ?_
              have e1 : p1 + 1 = P1 → s1 (p1 + 1) = 10000 := fun q => by rw [q]; exact hc1.2.2.2.1
              have e2 : p2 + 1 = P2 → s2 (p2 + 1) = 10000 := fun q => by rw [q]; exact hc2.2.2.2.1
              have m1 := hc1.2.2.2.2.1 (p1 + 1)
              have m2 := hc2.2.2.2.2.1 (p2 + 1)
              first
                | exact ih (10000 - (l + 1)) (by omega) (l + 1) p1 p2 _ _ _ N2 g2 P3 s3 G3 rfl (by omega) (by omega) (by omega) (k1.tr i1') (k2.tr i2') hp1 hp2 (fun q => by omega) (fun _ => ⟨i3', i4'⟩)
                | exact ih (10000 - (l + 1)) (by omega) (l + 1) (p1 + 1) p2 _ _ _ N2 g2 P3 s3 G3 rfl (by omega) (by omega) (by omega) (k1.tr i1') (k2.tr i2') (by omega) hp2 (fun q => by omega) (fun _ => ⟨i3', i4'⟩)
                | exact ih (10000 - (l + 1)) (by omega) (l + 1) p1 (p2 + 1) _ _ _ N2 g2 P3 s3 G3 rfl (by omega) (by omega) (by omega) (k1.tr i1') (k2.tr i2') hp1 (by omega) (fun q => by omega) (fun _ => ⟨i3', i4'⟩)
                | exact ih (10000 - (l + 1)) (by omega) (l + 1) (p1 + 1) (p2 + 1) _ _ _ N2 g2 P3 s3 G3 rfl (by omega) (by omega) (by omega) (k1.tr i1') (k2.tr i2') (by omega) (by omega) (fun q => by omega) (fun _ => ⟨i3', i4'⟩)
            · refine inc_4 (by decide) rfl iX1_becomeDifference_125 ?_
              refine ld_i5 iX1_becomeDifference_128 ?_
              refine r_iconst iX1_becomeDifference_130 ?_
              refine r_iadd iX1_becomeDifference_131 ?_
              refine sv_i6 (by decide) rfl iX1_becomeDifference_132 ?_
              refine r_goto iX1_becomeDifference_134 ?_
              refine fg_7 ?_
              have e1 : p1 + 1 = P1 → s1 (p1 + 1) = 10000 := fun q => by rw [q]; exact hc1.2.2.2.1
              have e2 : p2 + 1 = P2 → s2 (p2 + 1) = 10000 := fun q => by rw [q]; exact hc2.2.2.2.1
              have m1 := hc1.2.2.2.2.1 (p1 + 1)
              have m2 := hc2.2.2.2.2.1 (p2 + 1)
              first
                | exact ih (10000 - (l + 1)) (by omega) (l + 1) p1 p2 _ _ _ N2 g2 P3 s3 G3 rfl (by omega) (by omega) (by omega) (k1.tr i1') (k2.tr i2') hp1 hp2 (fun q => by omega) (fun _ => ⟨i3', i4'⟩)
                | exact ih (10000 - (l + 1)) (by omega) (l + 1) (p1 + 1) p2 _ _ _ N2 g2 P3 s3 G3 rfl (by omega) (by omega) (by omega) (k1.tr i1') (k2.tr i2') (by omega) hp2 (fun q => by omega) (fun _ => ⟨i3', i4'⟩)
                | exact ih (10000 - (l + 1)) (by omega) (l + 1) p1 (p2 + 1) _ _ _ N2 g2 P3 s3 G3 rfl (by omega) (by omega) (by omega) (k1.tr i1') (k2.tr i2') hp1 (by omega) (fun q => by omega) (fun _ => ⟨i3', i4'⟩)
                | exact ih (10000 - (l + 1)) (by omega) (l + 1) (p1 + 1) (p2 + 1) _ _ _ N2 g2 P3 s3 G3 rfl (by omega) (by omega) (by omega) (k1.tr i1') (k2.tr i2') (by omega) (by omega) (fun q => by omega) (fun _ => ⟨i3', i4'⟩)
        · refine ld_i3 iX1_becomeDifference_90 ?_
          refine r_iconst iX1_becomeDifference_91 ?_
          refine r_iadd iX1_becomeDifference_92 ?_
          refine ld_a1 iX1_becomeDifference_93 ?_
          refine gf_X1_pieces kFX1_9 iX1_becomeDifference_94 ?_
          rw [hR1.1]
          refine r_icmpge iX1_becomeDifference_97 (by omega) (by omega) (fun h97 => ?_) (fun h97 => ?_)
          · refine ld_a2 iX1_becomeDifference_103 ?_
            refine ld_i4 iX1_becomeDifference_104 ?_
            refine xX1_lastOf kMX1_60 iX1_becomeDifference_106 (by decide) (Nat.le_of_ble_eq_true rfl) rfl rfl ?_
            refine c_lastOf hR2 hp2 ?_
            refine ld_i5 iX1_becomeDifference_109 ?_
            refine r_icmpne iX1_becomeDifference_111 (by omega) (by omega) (fun h111 => ?_) (fun h111 => ?_)
            · refine ld_i5 iX1_becomeDifference_128 ?_
              refine r_iconst iX1_becomeDifference_130 ?_
              refine r_iadd iX1_becomeDifference_131 ?_
              refine sv_i6 (by decide) rfl iX1_becomeDifference_132 ?_
              refine r_goto iX1_becomeDifference_134 ?_
              refine fg_7 ?_
              have e1 : p1 + 1 = P1 → s1 (p1 + 1) = 10000 := fun q => by rw [q]; exact hc1.2.2.2.1
              have e2 : p2 + 1 = P2 → s2 (p2 + 1) = 10000 := fun q => by rw [q]; exact hc2.2.2.2.1
              have m1 := hc1.2.2.2.2.1 (p1 + 1)
              have m2 := hc2.2.2.2.2.1 (p2 + 1)
              first
                | exact ih (10000 - (l + 1)) (by omega) (l + 1) p1 p2 _ _ _ N2 g2 P3 s3 G3 rfl (by omega) (by omega) (by omega) (k1.tr i1') (k2.tr i2') hp1 hp2 (fun q => by omega) (fun _ => ⟨i3', i4'⟩)
                | exact ih (10000 - (l + 1)) (by omega) (l + 1) (p1 + 1) p2 _ _ _ N2 g2 P3 s3 G3 rfl (by omega) (by omega) (by omega) (k1.tr i1') (k2.tr i2') (by omega) hp2 (fun q => by omega) (fun _ => ⟨i3', i4'⟩)
                | exact ih (10000 - (l + 1)) (by omega) (l + 1) p1 (p2 + 1) _ _ _ N2 g2 P3 s3 G3 rfl (by omega) (by omega) (by omega) (k1.tr i1') (k2.tr i2') hp1 (by omega) (fun q => by omega) (fun _ => ⟨i3', i4'⟩)
                | exact ih (10000 - (l + 1)) (by omega) (l + 1) (p1 + 1) (p2 + 1) _ _ _ N2 g2 P3 s3 G3 rfl (by omega) (by omega) (by omega) (k1.tr i1') (k2.tr i2') (by omega) (by omega) (fun q => by omega) (fun _ => ⟨i3', i4'⟩)
            · refine ld_i4 iX1_becomeDifference_114 ?_
              refine r_iconst iX1_becomeDifference_116 ?_
              refine r_iadd iX1_becomeDifference_117 ?_
              refine ld_a2 iX1_becomeDifference_118 ?_
              refine gf_X1_pieces kFX1_9 iX1_becomeDifference_119 ?_
              rw [hR2.1]
              refine r_icmpge iX1_becomeDifference_122 (by omega) (by omega) (fun h122 => ?_) (fun h122 => ?_)
              · refine ld_i5 iX1_becomeDifference_128 ?_
                refine r_iconst iX1_becomeDifference_130 ?_
                refine r_iadd iX1_becomeDifference_131 ?_
                refine sv_i6 (by decide) rfl iX1_becomeDifference_132 ?_
                refine r_goto iX1_becomeDifference_134 ?_
                refine fg_7 ?_
                have e1 : p1 + 1 = P1 → s1 (p1 + 1) = 10000 := fun q => by rw [q]; exact hc1.2.2.2.1
                have e2 : p2 + 1 = P2 → s2 (p2 + 1) = 10000 := fun q => by rw [q]; exact hc2.2.2.2.1
                have m1 := hc1.2.2.2.2.1 (p1 + 1)
                have m2 := hc2.2.2.2.2.1 (p2 + 1)
                first
                  | exact ih (10000 - (l + 1)) (by omega) (l + 1) p1 p2 _ _ _ N2 g2 P3 s3 G3 rfl (by omega) (by omega) (by omega) (k1.tr i1') (k2.tr i2') hp1 hp2 (fun q => by omega) (fun _ => ⟨i3', i4'⟩)
                  | exact ih (10000 - (l + 1)) (by omega) (l + 1) (p1 + 1) p2 _ _ _ N2 g2 P3 s3 G3 rfl (by omega) (by omega) (by omega) (k1.tr i1') (k2.tr i2') (by omega) hp2 (fun q => by omega) (fun _ => ⟨i3', i4'⟩)
                  | exact ih (10000 - (l + 1)) (by omega) (l + 1) p1 (p2 + 1) _ _ _ N2 g2 P3 s3 G3 rfl (by omega) (by omega) (by omega) (k1.tr i1') (k2.tr i2') hp1 (by omega) (fun q => by omega) (fun _ => ⟨i3', i4'⟩)
                  | exact ih (10000 - (l + 1)) (by omega) (l + 1) (p1 + 1) (p2 + 1) _ _ _ N2 g2 P3 s3 G3 rfl (by omega) (by omega) (by omega) (k1.tr i1') (k2.tr i2') (by omega) (by omega) (fun q => by omega) (fun _ => ⟨i3', i4'⟩)
              · refine inc_4 (by decide) rfl iX1_becomeDifference_125 ?_
                refine ld_i5 iX1_becomeDifference_128 ?_
                refine r_iconst iX1_becomeDifference_130 ?_
                refine r_iadd iX1_becomeDifference_131 ?_
                refine sv_i6 (by decide) rfl iX1_becomeDifference_132 ?_
                refine r_goto iX1_becomeDifference_134 ?_
                refine fg_7 ?_
                have e1 : p1 + 1 = P1 → s1 (p1 + 1) = 10000 := fun q => by rw [q]; exact hc1.2.2.2.1
                have e2 : p2 + 1 = P2 → s2 (p2 + 1) = 10000 := fun q => by rw [q]; exact hc2.2.2.2.1
                have m1 := hc1.2.2.2.2.1 (p1 + 1)
                have m2 := hc2.2.2.2.2.1 (p2 + 1)
                first
                  | exact ih (10000 - (l + 1)) (by omega) (l + 1) p1 p2 _ _ _ N2 g2 P3 s3 G3 rfl (by omega) (by omega) (by omega) (k1.tr i1') (k2.tr i2') hp1 hp2 (fun q => by omega) (fun _ => ⟨i3', i4'⟩)
                  | exact ih (10000 - (l + 1)) (by omega) (l + 1) (p1 + 1) p2 _ _ _ N2 g2 P3 s3 G3 rfl (by omega) (by omega) (by omega) (k1.tr i1') (k2.tr i2') (by omega) hp2 (fun q => by omega) (fun _ => ⟨i3', i4'⟩)
                  | exact ih (10000 - (l + 1)) (by omega) (l + 1) p1 (p2 + 1) _ _ _ N2 g2 P3 s3 G3 rfl (by omega) (by omega) (by omega) (k1.tr i1') (k2.tr i2') hp1 (by omega) (fun q => by omega) (fun _ => ⟨i3', i4'⟩)
                  | exact ih (10000 - (l + 1)) (by omega) (l + 1) (p1 + 1) (p2 + 1) _ _ _ N2 g2 P3 s3 G3 rfl (by omega) (by omega) (by omega) (k1.tr i1') (k2.tr i2') (by omega) (by omega) (fun q => by omega) (fun _ => ⟨i3', i4'⟩)
          · refine inc_3 (by decide) rfl iX1_becomeDifference_100 ?_
            refine ld_a2 iX1_becomeDifference_103 ?_
            refine ld_i4 iX1_becomeDifference_104 ?_
            refine xX1_lastOf kMX1_60 iX1_becomeDifference_106 (by decide) (Nat.le_of_ble_eq_true rfl) rfl rfl ?_
            refine c_lastOf hR2 hp2 ?_
            refine ld_i5 iX1_becomeDifference_109 ?_
            refine r_icmpne iX1_becomeDifference_111 (by omega) (by omega) (fun h111 => ?_) (fun h111 => ?_)
            · refine ld_i5 iX1_becomeDifference_128 ?_
              refine r_iconst iX1_becomeDifference_130 ?_
              refine r_iadd iX1_becomeDifference_131 ?_
              refine sv_i6 (by decide) rfl iX1_becomeDifference_132 ?_
              refine r_goto iX1_becomeDifference_134 ?_
              refine fg_7 ?_
              have e1 : p1 + 1 = P1 → s1 (p1 + 1) = 10000 := fun q => by rw [q]; exact hc1.2.2.2.1
              have e2 : p2 + 1 = P2 → s2 (p2 + 1) = 10000 := fun q => by rw [q]; exact hc2.2.2.2.1
              have m1 := hc1.2.2.2.2.1 (p1 + 1)
              have m2 := hc2.2.2.2.2.1 (p2 + 1)
              first
                | exact ih (10000 - (l + 1)) (by omega) (l + 1) p1 p2 _ _ _ N2 g2 P3 s3 G3 rfl (by omega) (by omega) (by omega) (k1.tr i1') (k2.tr i2') hp1 hp2 (fun q => by omega) (fun _ => ⟨i3', i4'⟩)
                | exact ih (10000 - (l + 1)) (by omega) (l + 1) (p1 + 1) p2 _ _ _ N2 g2 P3 s3 G3 rfl (by omega) (by omega) (by omega) (k1.tr i1') (k2.tr i2') (by omega) hp2 (fun q => by omega) (fun _ => ⟨i3', i4'⟩)
                | exact ih (10000 - (l + 1)) (by omega) (l + 1) p1 (p2 + 1) _ _ _ N2 g2 P3 s3 G3 rfl (by omega) (by omega) (by omega) (k1.tr i1') (k2.tr i2') hp1 (by omega) (fun q => by omega) (fun _ => ⟨i3', i4'⟩)
                | exact ih (10000 - (l + 1)) (by omega) (l + 1) (p1 + 1) (p2 + 1) _ _ _ N2 g2 P3 s3 G3 rfl (by omega) (by omega) (by omega) (k1.tr i1') (k2.tr i2') (by omega) (by omega) (fun q => by omega) (fun _ => ⟨i3', i4'⟩)
            · refine ld_i4 iX1_becomeDifference_114 ?_
              refine r_iconst iX1_becomeDifference_116 ?_
              refine r_iadd iX1_becomeDifference_117 ?_
              refine ld_a2 iX1_becomeDifference_118 ?_
              refine gf_X1_pieces kFX1_9 iX1_becomeDifference_119 ?_
              rw [hR2.1]
              refine r_icmpge iX1_becomeDifference_122 (by omega) (by omega) (fun h122 => ?_) (fun h122 => ?_)
              · refine ld_i5 iX1_becomeDifference_128 ?_
                refine r_iconst iX1_becomeDifference_130 ?_
                refine r_iadd iX1_becomeDifference_131 ?_
                refine sv_i6 (by decide) rfl iX1_becomeDifference_132 ?_
                refine r_goto iX1_becomeDifference_134 ?_
                refine fg_7 ?_
                have e1 : p1 + 1 = P1 → s1 (p1 + 1) = 10000 := fun q => by rw [q]; exact hc1.2.2.2.1
                have e2 : p2 + 1 = P2 → s2 (p2 + 1) = 10000 := fun q => by rw [q]; exact hc2.2.2.2.1
                have m1 := hc1.2.2.2.2.1 (p1 + 1)
                have m2 := hc2.2.2.2.2.1 (p2 + 1)
                first
                  | exact ih (10000 - (l + 1)) (by omega) (l + 1) p1 p2 _ _ _ N2 g2 P3 s3 G3 rfl (by omega) (by omega) (by omega) (k1.tr i1') (k2.tr i2') hp1 hp2 (fun q => by omega) (fun _ => ⟨i3', i4'⟩)
                  | exact ih (10000 - (l + 1)) (by omega) (l + 1) (p1 + 1) p2 _ _ _ N2 g2 P3 s3 G3 rfl (by omega) (by omega) (by omega) (k1.tr i1') (k2.tr i2') (by omega) hp2 (fun q => by omega) (fun _ => ⟨i3', i4'⟩)
                  | exact ih (10000 - (l + 1)) (by omega) (l + 1) p1 (p2 + 1) _ _ _ N2 g2 P3 s3 G3 rfl (by omega) (by omega) (by omega) (k1.tr i1') (k2.tr i2') hp1 (by omega) (fun q => by omega) (fun _ => ⟨i3', i4'⟩)
                  | exact ih (10000 - (l + 1)) (by omega) (l + 1) (p1 + 1) (p2 + 1) _ _ _ N2 g2 P3 s3 G3 rfl (by omega) (by omega) (by omega) (k1.tr i1') (k2.tr i2') (by omega) (by omega) (fun q => by omega) (fun _ => ⟨i3', i4'⟩)
              · refine inc_4 (by decide) rfl iX1_becomeDifference_125 ?_
                refine ld_i5 iX1_becomeDifference_128 ?_
                refine r_iconst iX1_becomeDifference_130 ?_
                refine r_iadd iX1_becomeDifference_131 ?_
                refine sv_i6 (by decide) rfl iX1_becomeDifference_132 ?_
                refine r_goto iX1_becomeDifference_134 ?_
                refine fg_7 ?_
                have e1 : p1 + 1 = P1 → s1 (p1 + 1) = 10000 := fun q => by rw [q]; exact hc1.2.2.2.1
                have e2 : p2 + 1 = P2 → s2 (p2 + 1) = 10000 := fun q => by rw [q]; exact hc2.2.2.2.1
                have m1 := hc1.2.2.2.2.1 (p1 + 1)
                have m2 := hc2.2.2.2.2.1 (p2 + 1)
                first
                  | exact ih (10000 - (l + 1)) (by omega) (l + 1) p1 p2 _ _ _ N2 g2 P3 s3 G3 rfl (by omega) (by omega) (by omega) (k1.tr i1') (k2.tr i2') hp1 hp2 (fun q => by omega) (fun _ => ⟨i3', i4'⟩)
                  | exact ih (10000 - (l + 1)) (by omega) (l + 1) (p1 + 1) p2 _ _ _ N2 g2 P3 s3 G3 rfl (by omega) (by omega) (by omega) (k1.tr i1') (k2.tr i2') (by omega) hp2 (fun q => by omega) (fun _ => ⟨i3', i4'⟩)
                  | exact ih (10000 - (l + 1)) (by omega) (l + 1) p1 (p2 + 1) _ _ _ N2 g2 P3 s3 G3 rfl (by omega) (by omega) (by omega) (k1.tr i1') (k2.tr i2') hp1 (by omega) (fun q => by omega) (fun _ => ⟨i3', i4'⟩)
                  | exact ih (10000 - (l + 1)) (by omega) (l + 1) (p1 + 1) (p2 + 1) _ _ _ N2 g2 P3 s3 G3 rfl (by omega) (by omega) (by omega) (k1.tr i1') (k2.tr i2') (by omega) (by omega) (fun q => by omega) (fun _ => ⟨i3', i4'⟩)
  refine r_iconst iX1_becomeDifference_0 ?_
  refine sv_i3 (by decide) rfl iX1_becomeDifference_1 ?_
  refine r_iconst iX1_becomeDifference_2 ?_
  refine sv_i4 (by decide) rfl iX1_becomeDifference_3 ?_
  refine r_iconst iX1_becomeDifference_5 ?_
  refine sv_i5 (by decide) rfl iX1_becomeDifference_6 ?_
  refine r_iconst iX1_becomeDifference_8 ?_
  refine sv_i6 (by decide) rfl iX1_becomeDifference_9 ?_
  exact loop 10000 0 0 0 _ _ _ N g 0 (fun _ => 0) (fun _ => 0) (by omega) (by omega) (by omega) (by omega) (FrL.rf i N) (GeL.rf hRm) (by have := hL1.2.2.2.2.2.1; omega) (by have := hL2.2.2.2.2.2.1; omega) (fun _ => by have y1 := hL1.2.2.2.2.2.2.2.1; have y2 := hL2.2.2.2.2.2.2.2.1; have y3 := hL1.2.2.2.2.2.2.2.2.2.1 0 hL1.2.2.2.2.2.1; have y4 := hL2.2.2.2.2.2.2.2.2.2.1 0 hL2.2.2.2.2.2.1; omega) (fun q => by omega)
end Build9
