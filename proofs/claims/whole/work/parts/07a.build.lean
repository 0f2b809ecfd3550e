/-! own text: a line is drawn -/
abbrev RmOK (r : Nat) : Prop := r = 16 ∨ r = 32 ∨ r = 64 ∨ r = 128 ∨ r = 256 ∨ r = 512 ∨ r = 1024 ∨ r = 2048 ∨ r = 4096 ∨ r = 8192 ∨ r = 16384
/-- F over the wages 0 .. T-1 as its pieces -/
def Pb (F : Nat → Int) (P : Nat) (s : Nat → Nat) (G : Nat → Int) (T : Nat) : Prop :=
  1 ≤ P ∧ P ≤ T ∧ s 0 = 0 ∧ s P = T ∧ (∀ p, p < P → s p < s (p + 1)) ∧ (∀ p, p < P → ∀ w, s p ≤ w → w < s (p + 1) → F w = F (s p) + ((w : Int) - s p) * G p) ∧ (∀ p, p + 1 < P → s p + 2 ≤ s (p + 1) ∧ F (s (p + 1)) - F (s (p + 1) - 1) ≠ G p) ∧ ∀ p, p < P → s p + 1 = s (p + 1) → G p = 0
/-- the rows of line i hold these pieces -/
def Rw (N : Nm) (i : Nat) (F : Nat → Int) (P : Nat) (s : Nat → Nat) (G : Nat → Int) : Prop := ∀ p, p < P → N 13 i p = s p ∧ N 14 i p = F (s p) ∧ N 15 i p = G p
/-- line i while it is drawn, up to the wage T-1 -/
def Bd (N : Nm) (g : Ge) (i : Nat) (F : Nat → Int) (P : Nat) (s : Nat → Nat) (G : Nat → Int) (T : Nat) : Prop :=
  N 12 i 0 = P ∧ Rw N i F P s G ∧ N 12 i 4 = (T : Int) - 1 ∧ N 12 i 5 = F (T - 1) ∧ N 12 i 6 = (if s (P - 1) + 1 = T then 1 else 0) ∧ N 12 i 7 = 0 ∧ P ≤ g.2.2 i ∧ RmOK (g.2.2 i) ∧ Pb F P s G T
/-- nothing but line i has changed -/
def FrL (i : Nat) (N N' : Nm) : Prop := ∀ k a j, ¬ (12 ≤ k ∧ k ≤ 15 ∧ a = i) → N' k a j = N k a j
def GeL (i : Nat) (g g' : Ge) : Prop := g'.1 = g.1 ∧ g'.2.1 = g.2.1 ∧ (∀ a, a ≠ i → g'.2.2 a = g.2.2 a) ∧ RmOK (g'.2.2 i)
theorem FrL.rf (i : Nat) (N : Nm) : FrL i N N := fun _ _ _ _ => rfl
theorem FrL.tr {i : Nat} {A B C : Nm} (h1 : FrL i A B) (h2 : FrL i B C) : FrL i A C := fun k a j q => (h2 k a j q).trans (h1 k a j q)
theorem FrL.up {i k j : Nat} {A B : Nm} {v : Int} (h : FrL i A B) (hk : 12 ≤ k ∧ k ≤ 15) : FrL i A (upN B k i j v) := fun k' a' j' q => by
  rw [← h k' a' j' q]
  exact if_neg (fun z => q ⟨by omega, by omega, z.2.1⟩)
theorem GeL.rf {i : Nat} {g : Ge} (h : RmOK (g.2.2 i)) : GeL i g g := ⟨rfl, rfl, fun _ _ => rfl, h⟩
theorem GeL.tr {i : Nat} {a b c : Ge} (h1 : GeL i a b) (h2 : GeL i b c) : GeL i a c := ⟨h2.1.trans h1.1, h2.2.1.trans h1.2.1, fun x q => (h2.2.2.1 x q).trans (h1.2.2.1 x q), h2.2.2.2⟩
theorem Pb.le {F : Nat → Int} {P : Nat} {s : Nat → Nat} {G : Nat → Int} {T : Nat} (h : Pb F P s G T) : ∀ q, q ≤ P → ∀ p, p ≤ q → s p + (q - p) ≤ s q
  | 0, _, p, hp => by rw [show p = 0 by omega]; omega
  | q + 1, hq, p, hp => by
    rcases Nat.lt_or_ge q p with e | e
    · rw [show p = q + 1 by omega]; omega
    · have a := Pb.le h q (by omega) p e
      have b := h.2.2.2.2.1 q (by omega)
      omega
/-- the last piece goes on -/
theorem Pb.more {F : Nat → Int} {P : Nat} {s : Nat → Nat} {G : Nat → Int} {T n : Nat} {d : Int} (h : Pb F P s G T) (hn : 0 < n) (hF : ∀ k : Nat, k ≤ n → F (T - 1 + k) = F (T - 1) + k * d) (hd : s (P - 1) + 1 = T ∨ G (P - 1) = d) :
    Pb F P (fun p => if p = P then T + n else s p) (fun p => if p = P - 1 then d else G p) (T + n) := by
  obtain ⟨h1, h2, h3, h4, h5, h6, h7, h8⟩ := h
  have hl := h5 (P - 1) (by omega)
  rw [show P - 1 + 1 = P by omega, h4] at hl
  refine ⟨h1, by omega, by simp only; rw [if_neg (by omega)]; exact h3, by simp, fun p hp => ?_, fun p hp w w1 w2 => ?_, fun p hp => ?_, fun p hp e => ?_⟩
  · simp only
    rw [if_neg (by omega)]
    split
    · rename_i e; rw [show p = P - 1 by omega]; omega
    · exact h5 p hp
  · simp only at w1 w2 ⊢
    rw [if_neg (show p ≠ P by omega)] at w1 ⊢
    by_cases e : p = P - 1
    · rw [if_pos e]
      rw [if_pos (show p + 1 = P by omega)] at w2
      rw [e] at w1 ⊢
      rcases Nat.lt_or_ge w T with q | q
      · rcases hd with z | z
        · rw [show w = s (P - 1) by omega]; simp
        · rw [← z]; exact h6 (P - 1) (by omega) w w1 (by rw [show P - 1 + 1 = P by omega, h4]; exact q)
      · have a1 := hF (w - (T - 1)) (by omega)
        rw [show T - 1 + (w - (T - 1)) = w by omega, show ((w - (T - 1) : Nat) : Int) = (w : Int) - (T : Int) + 1 by omega] at a1
        have a2 := h6 (P - 1) (by omega) (T - 1) (by omega) (by rw [show P - 1 + 1 = P by omega, h4]; omega)
        rcases hd with z | z
        · rw [show T - 1 = s (P - 1) by omega] at a1
          rw [a1, show (w : Int) - (T : Int) + 1 = (w : Int) - s (P - 1) by omega]
        · rw [z] at a2
          rw [a1, a2, show (w : Int) - s (P - 1) = (((T - 1 : Nat) : Int) - s (P - 1)) + ((w : Int) - T + 1) by omega, Int.add_mul (((T - 1 : Nat) : Int) - s (P - 1)) ((w : Int) - T + 1) d]
          omega
    · rw [if_neg e]
      rw [if_neg (show p + 1 ≠ P by omega)] at w2
      exact h6 p hp w w1 w2
  · simp only
    rw [if_neg (show p ≠ P by omega), if_neg (show p + 1 ≠ P by omega), if_neg (show p ≠ P - 1 by omega)]
    exact h7 p hp
  · simp only at e ⊢
    rw [if_neg (show p ≠ P by omega)] at e
    by_cases e2 : p = P - 1
    · rw [if_pos (show p + 1 = P by omega), e2] at e; omega
    · rw [if_neg e2]
      rw [if_neg (show p + 1 ≠ P by omega)] at e
      exact h8 p hp e
/-- a new piece of one wage -/
theorem Pb.one {F : Nat → Int} {P : Nat} {s : Nat → Nat} {G : Nat → Int} {T : Nat} (h : Pb F P s G T) (ha : s (P - 1) + 1 ≠ T) (hd : F T - F (T - 1) ≠ G (P - 1)) :
    Pb F (P + 1) (fun p => if p = P + 1 then T + 1 else s p) (fun p => if p = P then 0 else G p) (T + 1) := by
  obtain ⟨h1, h2, h3, h4, h5, h6, h7, h8⟩ := h
  have hl := h5 (P - 1) (by omega)
  rw [show P - 1 + 1 = P by omega, h4] at hl
  refine ⟨by omega, by omega, by simp only; rw [if_neg (by omega)]; exact h3, by simp, fun p hp => ?_, fun p hp w w1 w2 => ?_, fun p hp => ?_, fun p hp e => ?_⟩
  · simp only
    rw [if_neg (by omega)]
    split
    · rename_i e; rw [show p = P by omega, h4]; omega
    · exact h5 p (by omega)
  · simp only at w1 w2 ⊢
    rw [if_neg (show p ≠ P + 1 by omega)] at w1 ⊢
    by_cases e : p = P
    · rw [if_pos (by omega)] at w2
      rw [e, h4] at w1 ⊢
      rw [show w = T by omega]; simp
    · rw [if_neg e]
      rw [if_neg (by omega)] at w2
      exact h6 p (by omega) w w1 w2
  · simp only
    rw [if_neg (show p ≠ P + 1 by omega), if_neg (show p + 1 ≠ P + 1 by omega), if_neg (show p ≠ P by omega)]
    by_cases e : p + 1 = P
    · rw [e, h4, show p = P - 1 by omega]
      exact ⟨by omega, hd⟩
    · exact h7 p (by omega)
  · simp only at e ⊢
    rw [if_neg (show p ≠ P + 1 by omega)] at e
    by_cases e2 : p = P
    · rw [if_pos e2]
    · rw [if_neg e2]
      rw [if_neg (by omega)] at e
      exact h8 p (by omega) e
def opN (N : Nm) (i P : Nat) (w v : Int) : Nm := upN (upN (upN (upN (upN (upN (upN N 13 i P w) 14 i P v) 15 i P 0) 12 i 0 (P + 1)) 12 i 4 w) 12 i 5 v) 12 i 6 1
section Build9
variable {K : Kx} {N : Nm} {g : Ge} {i : Nat}
theorem c_open {P : Nat} {w v : Int} {Pq : Nm → Ge → Prop} (hN0 : N 12 i 0 = P) (hP : P < g.2.2 i) (hr : g.2.2 i ≤ 16384) (hq : Pq (opN N i P w v) g) : Ck K YX1_open hX1_open [vr 12 i, vi w, vl v] N g (qV Pq) := by
  refine Ck.intro 0 (by decide) rfl ?_
  show AW _ _ _ _ _ [some (vr 12 i), some (vi w), some (vl v), none] _ _ _
  refine ld_a0 iX1_open_0 ?_
  refine gf_X1_starts kFX1_15 iX1_open_1 ?_
  refine ld_a0 iX1_open_4 ?_
  refine gf_X1_pieces kFX1_9 iX1_open_5 ?_
  rw [hN0]
  refine ld_i1 iX1_open_8 ?_
  refine as_13 rfl (by omega) (by omega) iX1_open_9 ?_
  refine ld_a0 iX1_open_10 ?_
  refine gf_X1_values kFX1_19 iX1_open_11 ?_
  refine ld_a0 iX1_open_14 ?_
  refine gf_X1_pieces kFX1_9 iX1_open_15 ?_
  rw [upN_k (by decide), hN0]
  refine ld_l2 iX1_open_18 ?_
  refine as_14 rfl (by omega) (by omega) iX1_open_19 ?_
  refine ld_a0 iX1_open_20 ?_
  refine gf_X1_gains kFX1_23 iX1_open_21 ?_
  refine ld_a0 iX1_open_24 ?_
  refine gf_X1_pieces kFX1_9 iX1_open_25 ?_
  rw [upN_k (by decide), upN_k (by decide), hN0]
  refine r_lconst (v := 0) (by decide) iX1_open_28 ?_
  refine as_15 rfl (by omega) (by omega) iX1_open_29 ?_
  refine ld_a0 iX1_open_30 ?_
  refine r_dup rfl iX1_open_31 ?_
  refine gf_X1_pieces kFX1_9 iX1_open_32 ?_
  rw [upN_k (by decide), upN_k (by decide), upN_k (by decide), hN0]
  refine r_iconst iX1_open_35 ?_
  refine r_iadd iX1_open_36 ?_
  refine pf_X1_pieces kFX1_9 iX1_open_37 ?_
  refine ld_a0 iX1_open_40 ?_
  refine ld_i1 iX1_open_41 ?_
  refine pf_X1_endWage kFX1_26 iX1_open_42 ?_
  refine ld_a0 iX1_open_45 ?_
  refine ld_l2 iX1_open_46 ?_
  refine pf_X1_endValue kFX1_29 iX1_open_47 ?_
  refine ld_a0 iX1_open_50 ?_
  refine r_iconst iX1_open_51 ?_
  refine pf_X1_alone (by omega) kFX1_33 iX1_open_52 ?_
  refine t_void rfl iX1_open_55 ?_
  exact hq
theorem c_makeRoom {P : Nat} {Pq : Nm → Ge → Prop} (hN0 : N 12 i 0 = P) (hP : P ≤ 10000) (hr : RmOK (g.2.2 i)) (hq : ∀ N' g', GeL i g g' → P + 2 ≤ g'.2.2 i → g.2.2 i ≤ g'.2.2 i → (∀ k a j, ¬ (13 ≤ k ∧ k ≤ 15 ∧ a = i ∧ g.2.2 i ≤ j) → N' k a j = N k a j) → Pq N' g') : Ck K YX1_makeRoom hX1_makeRoom [vr 12 i] N g (qV Pq) := by
  sorry
theorem opN_fr {P : Nat} {w v : Int} : FrL i N (opN N i P w v) := by
  unfold opN
  exact ((((((((FrL.rf i N).up (by omega)).up (by omega)).up (by omega)).up (by omega)).up (by omega)).up (by omega)).up (by omega))
theorem opN_rd {P : Nat} {w v : Int} (p : Nat) (hp : p ≠ P) : opN N i P w v 13 i p = N 13 i p ∧ opN N i P w v 14 i p = N 14 i p ∧ opN N i P w v 15 i p = N 15 i p := by
  simp [opN, upN, hp]
theorem opN_at {P : Nat} {w v : Int} : opN N i P w v 13 i P = w ∧ opN N i P w v 14 i P = v ∧ opN N i P w v 15 i P = 0 ∧ opN N i P w v 12 i 0 = P + 1 ∧ opN N i P w v 12 i 4 = w ∧ opN N i P w v 12 i 5 = v ∧ opN N i P w v 12 i 6 = 1 ∧ opN N i P w v 12 i 7 = N 12 i 7 := by
  simp [opN, upN]
theorem opN_bd {F : Nat → Int} {P : Nat} {s : Nat → Nat} {G : Nat → Int} {T : Nat} (hB : Bd N g i F P s G T) (ha : s (P - 1) + 1 ≠ T) (hd : F T - F (T - 1) ≠ G (P - 1)) (hr : P + 1 ≤ g.2.2 i) : Bd (opN N i P T (F T)) g i F (P + 1) (fun p => if p = P + 1 then T + 1 else s p) (fun p => if p = P then 0 else G p) (T + 1) := by
  obtain ⟨hN0, hRw, hN4, hN5, hN6, hN7, hPr, hRm, hPb⟩ := hB
  have hPT := hPb.2.2.2.1
  obtain ⟨o1, o2, o3, o4, o5, o6, o7, o8⟩ := opN_at (N := N) (i := i) (P := P) (w := T) (v := F T)
  refine ⟨by rw [o4]; omega, fun p hp => ?_, by rw [o5]; omega, by rw [o6]; rfl, ?_, by rw [o8]; exact hN7, hr, hRm, hPb.one ha hd⟩
  · simp only
    rw [if_neg (show p ≠ P + 1 by omega)]
    by_cases e : p = P
    · rw [e, o1, o2, o3, hPT, if_pos rfl]; exact ⟨rfl, rfl, rfl⟩
    · obtain ⟨q1, q2, q3⟩ := opN_rd (N := N) (i := i) (w := T) (v := F T) p e
      rw [q1, q2, q3, if_neg e]; exact hRw p (by omega)
  · rw [o7, if_pos]
    show (if P + 1 - 1 = P + 1 then T + 1 else s (P + 1 - 1)) + 1 = T + 1
    rw [if_neg (by omega), show P + 1 - 1 = P by omega, hPT]
theorem c_go {F : Nat → Int} {P : Nat} {s : Nat → Nat} {G : Nat → Int} {T n : Nat} {d : Int} {Pq : Nm → Ge → Prop} (hB : Bd N g i F P s G T) (hF : ∀ k : Nat, k ≤ n → F (T - 1 + k) = F (T - 1) + k * d) (hT : T + n ≤ 10000) (hb : ∀ p, p < P → rL (G p)) (hd : rL d) (hrm : P + 1 ≤ g.2.2 i)
    (hq : ∀ N' P' s' G', FrL i N N' → Bd N' g i F P' s' G' (T + n) → P ≤ P' → P' ≤ P + 1 → (∀ p, p < P' → G' p = d ∨ G' p = 0 ∨ (p < P ∧ G' p = G p)) → Pq N' g) : Ck K YX1_go hX1_go [vr 12 i, vl d, vi n] N g (qV Pq) := by
  have hB0 := hB
  obtain ⟨hN0, hRw, hN4, hN5, hN6, hN7, hPr, hRm, hPb⟩ := hB
  have h1 := hPb.1
  have h2 := hPb.2.1
  have h4 := hPb.2.2.2.1
  have hl := hPb.2.2.2.2.1 (P - 1) (by omega)
  rw [show P - 1 + 1 = P by omega, h4] at hl
  refine Ck.intro 1 (by decide) rfl ?_
  show AW _ _ _ _ _ [some (vr 12 i), some (vl d), none, some (vi n), none] _ _ _
  have tl : ∀ (N1 : Nm) (P1 : Nat) (s1 : Nat → Nat) (G1 : Nat → Int) (T1 r : Nat) (z : Int), z = r → FrL i N N1 → Bd N1 g i F P1 s1 G1 T1 → (0 < r → s1 (P1 - 1) + 1 = T1 ∨ G1 (P1 - 1) = d) → (∀ k : Nat, k ≤ r → F (T1 - 1 + k) = F (T1 - 1) + k * d) → T1 + r = T + n → P ≤ P1 → P1 ≤ P + 1 → (∀ p, p < P1 → G1 p = 0 ∨ (p < P ∧ G1 p = G p)) → AW K YX1_go hX1_go (qV Pq) 50 [some (vr 12 i), some (vl d), none, some (vi n), some (vi z)] [] N1 g := by
    intro N1 P1 s1 G1 T1 r z hz k1 k2 k3 k4 k5 k6 k7 k8
    subst hz
    obtain ⟨n0, nR, n4, n5, n6, n7, nP, nM, nb⟩ := k2
    have b1 := nb.1
    have b2 := nb.2.1
    have b4 := nb.2.2.2.1
    have bl := nb.2.2.2.2.1 (P1 - 1) (by omega)
    rw [show P1 - 1 + 1 = P1 by omega, b4] at bl
    refine ld_i4 iX1_go_50 ?_
    refine r_ifle iX1_go_52 (by omega) (fun h52 => ?_) (fun h52 => ?_)
    · have e : r = 0 := by omega
      subst e
      refine t_void rfl iX1_go_97 ?_
      first
        | exact hq N1 P1 s1 G1 k1 ⟨n0, nR, by rw [n4]; omega, by rw [n5]; congr 1; omega, by rw [n6]; congr 1; rw [← k5]; rfl, n7, nP, nM, k5 ▸ nb⟩ k6 k7 (fun p q => Or.inr (k8 p q))
        | (have hmore := nb.more (by omega) k4 (k3 (by omega))
           refine hq _ P1 _ _ (((((k1.up (by omega)).up (by omega)).up (by omega)).up (by omega))) ⟨?_, fun p hp => ?_, ?_, ?_, ?_, ?_, nP, nM, k5 ▸ hmore⟩ k6 k7 (fun p q => ?_)
           · simp [upN]; exact n0
           · rw [if_neg (show p ≠ P1 by omega)]
             by_cases e : p = P1 - 1
             · rw [if_pos e]; simp [upN, e]; rw [← e]; exact ⟨(nR p hp).1, (nR p hp).2.1⟩
             · rw [if_neg e]; simp [upN, e]; exact nR p hp
           · simp [upN]; omega
           · simp [upN]; rw [← k5, show T1 + r - 1 = T1 - 1 + r by omega, k4 r (Nat.le_refl _)]
           · rw [if_neg (by rw [if_neg (show P1 - 1 ≠ P1 by omega)]; omega)]; simp [upN]
           · simp [upN]; exact n7
           · split
             · exact Or.inl rfl
             · exact Or.inr (k8 p q))
    · refine ld_a0 iX1_go_55 ?_
      refine gf_X1_gains kFX1_23 iX1_go_56 ?_
      refine ld_a0 iX1_go_59 ?_
      refine gf_X1_pieces kFX1_9 iX1_go_60 ?_
      refine r_iconst iX1_go_63 ?_
      refine r_isub iX1_go_64 ?_
      rw [n0]
      refine ld_l1 iX1_go_65 ?_
      refine as_15 (n := (P1 - 1)) (by omega) (by omega) (by omega) iX1_go_66 ?_
      refine ld_a0 iX1_go_67 ?_
      refine r_iconst iX1_go_68 ?_
      refine pf_X1_alone (by omega) kFX1_33 iX1_go_69 ?_
      refine ld_a0 iX1_go_72 ?_
      refine r_dup rfl iX1_go_73 ?_
      refine gf_X1_endWage kFX1_26 iX1_go_74 ?_
      rw [upN_j (by decide), upN_k (by decide), n4]
      refine ld_i4 iX1_go_77 ?_
      refine r_iadd iX1_go_79 ?_
      refine pf_X1_endWage kFX1_26 iX1_go_80 ?_
      refine ld_a0 iX1_go_83 ?_
      refine r_dup rfl iX1_go_84 ?_
      refine gf_X1_endValue kFX1_29 iX1_go_85 ?_
      rw [upN_j (by decide), upN_j (by decide), upN_k (by decide), n5]
      refine ld_i4 iX1_go_88 ?_
      refine r_i2l (by omega) iX1_go_90 ?_
      refine ld_l1 iX1_go_91 ?_
      refine r_lmul iX1_go_92 ?_
      refine r_ladd iX1_go_93 ?_
      refine pf_X1_endValue kFX1_29 iX1_go_94 ?_
      refine t_void rfl iX1_go_97 ?_
      first
        | exact hq N1 P1 s1 G1 k1 ⟨n0, nR, by rw [n4]; omega, by rw [n5]; congr 1; omega, by rw [n6]; congr 1; rw [← k5]; rfl, n7, nP, nM, k5 ▸ nb⟩ k6 k7 (fun p q => Or.inr (k8 p q))
        | (have hmore := nb.more (by omega) k4 (k3 (by omega))
           refine hq _ P1 _ _ (((((k1.up (by omega)).up (by omega)).up (by omega)).up (by omega))) ⟨?_, fun p hp => ?_, ?_, ?_, ?_, ?_, nP, nM, k5 ▸ hmore⟩ k6 k7 (fun p q => ?_)
           · simp [upN]; exact n0
           · rw [if_neg (show p ≠ P1 by omega)]
             by_cases e : p = P1 - 1
             · rw [if_pos e]; simp [upN, e]; rw [← e]; exact ⟨(nR p hp).1, (nR p hp).2.1⟩
             · rw [if_neg e]; simp [upN, e]; exact nR p hp
           · simp [upN]; omega
           · simp [upN]; rw [← k5, show T1 + r - 1 = T1 - 1 + r by omega, k4 r (Nat.le_refl _)]
           · rw [if_neg (by rw [if_neg (show P1 - 1 ≠ P1 by omega)]; omega)]; simp [upN]
           · simp [upN]; exact n7
           · split
             · exact Or.inl rfl
             · exact Or.inr (k8 p q))
  have hG := hb (P - 1) (by omega)
  have hFT : 0 < n → F T = F (T - 1) + d := fun q => by
    have := hF 1 (by omega)
    rw [show T - 1 + 1 = T by omega, show ((1 : Nat) : Int) = 1 from rfl, Int.one_mul] at this
    exact this
  refine ld_i3 iX1_go_0 ?_
  refine sv_i4 (by decide) rfl iX1_go_1 ?_
  refine ld_i4 iX1_go_3 ?_
  refine r_ifle iX1_go_5 (by omega) (fun h5 => ?_) (fun h5 => ?_)
  · first
      | exact tl N P s G T n _ rfl (FrL.rf i N) hB0 (fun q => by first | omega | exact Or.inr h27 | (revert h12; split <;> omega)) hF rfl (Nat.le_refl _) (by omega) (fun p q => Or.inr ⟨q, rfl⟩)
      | (have ha : s (P - 1) + 1 ≠ T := by intro q; rw [if_pos q] at h12; omega
         refine tl _ (P + 1) _ _ (T + 1) (n - 1) _ (by omega) opN_fr (opN_bd hB0 ha (by rw [hFT (by omega)]; omega) hrm) (fun q => Or.inl ?_) (fun k hk => ?_) (by omega) (by omega) (by omega) (fun p q => ?_)
         · show (if P + 1 - 1 = P + 1 then T + 1 else s (P + 1 - 1)) + 1 = T + 1
           rw [if_neg (by omega), show P + 1 - 1 = P by omega, h4]
         · have y := hF (k + 1) (by omega)
           rw [show T - 1 + (k + 1) = T + 1 - 1 + k by omega, show ((k + 1 : Nat) : Int) = (k : Int) + 1 by omega, lin_step] at y
           rw [y, show T + 1 - 1 = T by omega, hFT (by omega)]; omega
         · by_cases e : p = P
           · exact Or.inl (if_pos e)
           · exact Or.inr ⟨by omega, if_neg e⟩)
  · refine ld_a0 iX1_go_8 ?_
    refine gf_X1_alone kFX1_33 iX1_go_9 ?_
    rw [hN6]
    refine r_ifne iX1_go_12 (by split <;> omega) (fun h12 => ?_) (fun h12 => ?_)
    · first
        | exact tl N P s G T n _ rfl (FrL.rf i N) hB0 (fun q => by first | omega | exact Or.inr h27 | (revert h12; split <;> omega)) hF rfl (Nat.le_refl _) (by omega) (fun p q => Or.inr ⟨q, rfl⟩)
        | (have ha : s (P - 1) + 1 ≠ T := by intro q; rw [if_pos q] at h12; omega
           refine tl _ (P + 1) _ _ (T + 1) (n - 1) _ (by omega) opN_fr (opN_bd hB0 ha (by rw [hFT (by omega)]; omega) hrm) (fun q => Or.inl ?_) (fun k hk => ?_) (by omega) (by omega) (by omega) (fun p q => ?_)
           · show (if P + 1 - 1 = P + 1 then T + 1 else s (P + 1 - 1)) + 1 = T + 1
             rw [if_neg (by omega), show P + 1 - 1 = P by omega, h4]
           · have y := hF (k + 1) (by omega)
             rw [show T - 1 + (k + 1) = T + 1 - 1 + k by omega, show ((k + 1 : Nat) : Int) = (k : Int) + 1 by omega, lin_step] at y
             rw [y, show T + 1 - 1 = T by omega, hFT (by omega)]; omega
           · by_cases e : p = P
             · exact Or.inl (if_pos e)
             · exact Or.inr ⟨by omega, if_neg e⟩)
    · refine ld_a0 iX1_go_15 ?_
      refine gf_X1_gains kFX1_23 iX1_go_16 ?_
      refine ld_a0 iX1_go_19 ?_
      refine gf_X1_pieces kFX1_9 iX1_go_20 ?_
      refine r_iconst iX1_go_23 ?_
      refine r_isub iX1_go_24 ?_
      rw [hN0]
      refine al_15 (n := (P - 1)) (by omega) (by omega) (by omega) iX1_go_25 ?_
      rw [(hRw (P - 1) (by omega)).2.2]
      refine ld_l1 iX1_go_26 ?_
      refine r_lceq iX1_go_27 iX1_go_28 (by omega) (by omega) (fun h27 => ?_) (fun h27 => ?_)
      · first
          | exact tl N P s G T n _ rfl (FrL.rf i N) hB0 (fun q => by first | omega | exact Or.inr h27 | (revert h12; split <;> omega)) hF rfl (Nat.le_refl _) (by omega) (fun p q => Or.inr ⟨q, rfl⟩)
          | (have ha : s (P - 1) + 1 ≠ T := by intro q; rw [if_pos q] at h12; omega
             refine tl _ (P + 1) _ _ (T + 1) (n - 1) _ (by omega) opN_fr (opN_bd hB0 ha (by rw [hFT (by omega)]; omega) hrm) (fun q => Or.inl ?_) (fun k hk => ?_) (by omega) (by omega) (by omega) (fun p q => ?_)
             · show (if P + 1 - 1 = P + 1 then T + 1 else s (P + 1 - 1)) + 1 = T + 1
               rw [if_neg (by omega), show P + 1 - 1 = P by omega, h4]
             · have y := hF (k + 1) (by omega)
               rw [show T - 1 + (k + 1) = T + 1 - 1 + k by omega, show ((k + 1 : Nat) : Int) = (k : Int) + 1 by omega, lin_step] at y
               rw [y, show T + 1 - 1 = T by omega, hFT (by omega)]; omega
             · by_cases e : p = P
               · exact Or.inl (if_pos e)
               · exact Or.inr ⟨by omega, if_neg e⟩)
      · refine ld_a0 iX1_go_31 ?_
        refine ld_a0 iX1_go_32 ?_
        refine gf_X1_endWage kFX1_26 iX1_go_33 ?_
        rw [hN4]
        refine r_iconst iX1_go_36 ?_
        refine r_iadd iX1_go_37 ?_
        refine ld_a0 iX1_go_38 ?_
        refine gf_X1_endValue kFX1_29 iX1_go_39 ?_
        rw [hN5]
        refine ld_l1 iX1_go_42 ?_
        refine r_ladd iX1_go_43 ?_
        rw [show (T : Int) - 1 + 1 = T by omega, ← hFT (by omega)]
        refine xX1_open kMX1_40 iX1_go_44 (by decide) (Nat.le_of_ble_eq_true rfl) rfl rfl ?_
        refine c_open hN0 (by omega) (by omega) ?_
        refine inc_4 (by decide) rfl iX1_go_47 ?_
        first
          | exact tl N P s G T n _ rfl (FrL.rf i N) hB0 (fun q => by first | omega | exact Or.inr h27 | (revert h12; split <;> omega)) hF rfl (Nat.le_refl _) (by omega) (fun p q => Or.inr ⟨q, rfl⟩)
          | (have ha : s (P - 1) + 1 ≠ T := by intro q; rw [if_pos q] at h12; omega
             refine tl _ (P + 1) _ _ (T + 1) (n - 1) _ (by omega) opN_fr (opN_bd hB0 ha (by rw [hFT (by omega)]; omega) hrm) (fun q => Or.inl ?_) (fun k hk => ?_) (by omega) (by omega) (by omega) (fun p q => ?_)
             · show (if P + 1 - 1 = P + 1 then T + 1 else s (P + 1 - 1)) + 1 = T + 1
               rw [if_neg (by omega), show P + 1 - 1 = P by omega, h4]
             · have y := hF (k + 1) (by omega)
               rw [show T - 1 + (k + 1) = T + 1 - 1 + k by omega, show ((k + 1 : Nat) : Int) = (k : Int) + 1 by omega, lin_step] at y
               rw [y, show T + 1 - 1 = T by omega, hFT (by omega)]; omega
             · by_cases e : p = P
               · exact Or.inl (if_pos e)
               · exact Or.inr ⟨by omega, if_neg e⟩)
end Build9
