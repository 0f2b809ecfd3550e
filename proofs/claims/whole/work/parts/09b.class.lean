/-! own text: the class as a whole: its desk, its lines, what it is asked -/
/-- the lines are drawn -/
def Dr (N : Nm) (g : Ge) (d : Dk) : Prop := (∀ i, i < dA d ∨ i = 6 → ∃ P s G, Ln N g i (LF d (dB d) i) P s G ∧ Cn (LF d (dB d) i) P s G) ∧ ∀ a, a < dA d → CtT N d (dB d) a 10000
def XS (N : Nm) (g : Ge) (d : Dk) : Prop := (N 0 0 9 = 0 ∨ N 0 0 9 = 1) ∧ (∀ i, i ≤ 7 → RmOK (g.2.2 i)) ∧ (N 0 0 9 = 1 → WD d ∧ RuI N g.1 d ∧ (N 0 0 10 = 0 ∨ N 0 0 10 = 1) ∧ (N 0 0 10 = 0 → Dr N g d))
/-- nothing has changed but the Point, the lines, and whether they are stale -/
def FrQ (N N' : Nm) : Prop := ∀ k i j, ¬ (3 ≤ k ∧ k ≤ 15) → ¬ (k = 0 ∧ j = 10) → N' k i j = N k i j
def XT (N : Nm) (g : Ge) (d : Dk) (N' : Nm) (g' : Ge) : Prop := FrQ N N' ∧ GeA g g' ∧ XS N' g' d
theorem FrQ.rf (N : Nm) : FrQ N N := fun _ _ _ _ _ => rfl
theorem FrQ.tr {A B C : Nm} (h1 : FrQ A B) (h2 : FrQ B C) : FrQ A C := fun k a j q z => (h2 k a j q z).trans (h1 k a j q z)
theorem XT.rf {N : Nm} {g : Ge} {d : Dk} (h : XS N g d) : XT N g d N g := ⟨FrQ.rf N, ⟨rfl, rfl, h.2.1⟩, h⟩
theorem XT.tr {A B C : Nm} {a b c : Ge} {d : Dk} (h1 : XT A a d B b) (h2 : XT B b d C c) : XT A a d C c := ⟨h1.1.tr h2.1, h1.2.1.tr h2.2.1, h2.2.2⟩
theorem Ln.fr {N N' : Nm} {g g' : Ge} {i : Nat} {F : Nat → Int} {P : Nat} {s : Nat → Nat} {G : Nat → Int} (h : Ln N g i F P s G) (hN : ∀ k j, 12 ≤ k → k ≤ 15 → N' k i j = N k i j) (hg : g'.2.2 i = g.2.2 i) : Ln N' g' i F P s G := by
  obtain ⟨h1, h2, h3, h4, h5⟩ := h
  refine ⟨by rw [hN 12 0 (by omega) (by omega)]; exact h1, fun p hp => ?_, by rw [hN 12 7 (by omega) (by omega)]; exact h3, by rw [hg]; exact h4, h5⟩
  rw [hN 13 p (by omega) (by omega), hN 14 p (by omega) (by omega), hN 15 p (by omega) (by omega)]; exact h2 p hp
theorem Dr.fr {N N' : Nm} {g g' : Ge} {d : Dk} (hA : dA d ≤ 6) (h : Dr N g d) (hN : ∀ k i j, k = 10 ∨ (12 ≤ k ∧ k ≤ 15) → i ≤ 6 → N' k i j = N k i j) (hg : ∀ i, i ≤ 6 → g'.2.2 i = g.2.2 i) : Dr N' g' d := by
  refine ⟨fun i hi => ?_, fun a ha q hq => ?_⟩
  · obtain ⟨P, s, G, h1, h2⟩ := h.1 i hi
    exact ⟨P, s, G, h1.fr (fun k j q1 q2 => hN k i j (by omega) (by omega)) (hg i (by omega)), h2⟩
  · rw [hN 10 a q (by omega) (by omega)]; exact h.2 a ha q hq
theorem Dr.sr {N N' : Nm} {g : Ge} {d : Dk} (h : Dr N g d) (q : Sr N N') : Dr N' g d := by
  refine ⟨fun i hi => ?_, fun a ha z hz => ?_⟩
  · obtain ⟨P, s, G, h1, h2⟩ := h.1 i hi
    exact ⟨P, s, G, h1.sr q, h2⟩
  · rw [q.1 10 a z (by omega)]; exact h.2 a ha z hz
theorem Sr.frq {N N' : Nm} (q : Sr N N') : FrQ N N' := fun k i j z _ => q.1 k i j (by omega)
theorem XT.sr {N N' : Nm} {g : Ge} {d : Dk} (h : XS N g d) (q : Sr N N') : XT N g d N' g := by
  refine ⟨q.frq, ⟨rfl, rfl, h.2.1⟩, by rw [q.1 0 0 9 (by omega)]; exact h.1, h.2.1, fun z => ?_⟩
  rw [q.1 0 0 9 (by omega)] at z
  obtain ⟨a1, a2, a3, a4⟩ := h.2.2 z
  refine ⟨a1, a2.of (fun k a j q1 q2 => q.1 k a j (by omega)), by rw [q.1 0 0 10 (by omega)]; exact a3, fun y => ?_⟩
  rw [q.1 0 0 10 (by omega)] at y
  exact (a4 y).sr q
theorem XT.frp {N N' : Nm} {g : Ge} {d : Dk} (h : XS N g d) (q : FrP N N') : XT N g d N' g := by
  refine ⟨fun k i j z _ => q k i j (by omega), ⟨rfl, rfl, h.2.1⟩, by rw [q 0 0 9 (by omega)]; exact h.1, h.2.1, fun z => ?_⟩
  rw [q 0 0 9 (by omega)] at z
  obtain ⟨a1, a2, a3, a4⟩ := h.2.2 z
  refine ⟨a1, a2.frp q, by rw [q 0 0 10 (by omega)]; exact a3, fun y => ?_⟩
  rw [q 0 0 10 (by omega)] at y
  exact (a4 y).fr a1.1 (fun k i j z1 z2 => q k i j (by omega)) (fun _ _ => rfl)
theorem XT.l7 {N N' : Nm} {g g' : Ge} {d : Dk} (h : XS N g d) (q : FrL 7 N N') (hg : GeL 7 g g') : XT N g d N' g' := by
  have hA : GeA g g' := GeA.l ⟨rfl, rfl, h.2.1⟩ hg
  refine ⟨fun k i j z _ => q k i j (by omega), hA, by rw [q 0 0 9 (by omega)]; exact h.1, hA.2.2, fun z => ?_⟩
  rw [q 0 0 9 (by omega)] at z
  obtain ⟨a1, a2, a3, a4⟩ := h.2.2 z
  refine ⟨a1, by rw [hg.1]; exact a2.of (fun k a j q1 q2 => q k a j (by omega)), by rw [q 0 0 10 (by omega)]; exact a3, fun y => ?_⟩
  rw [q 0 0 10 (by omega)] at y
  exact (a4 y).fr a1.1 (fun k i j z1 z2 => q k i j (by omega)) (fun i hi => hg.2.2.1 i (by omega))
def rwo (of : Int) : Nat := if of = -1 then 6 else of.toNat
theorem rwo_ok {d : Dk} {of : Int} (h : -1 ≤ of ∧ of < dA d) : rwo of < dA d ∨ rwo of = 6 := by
  unfold rwo; split <;> omega
section Class9
variable {K : Kx} {N : Nm} {g : Ge} {d : Dk}
theorem c_rowOf {of : Int} {Pq : Int → Nm → Ge → Prop} (hr : rI of) (ho : -1 ≤ of) (hq : Pq (rwo of) N g) : Ck K YX9_rowOf hX9_rowOf [vi of] N g (qI Pq) := by
  refine Ck.intro 0 (by decide) rfl ?_
  show AW _ _ _ _ _ [some (vi of)] _ _ _
  unfold rwo at hq
  have tl : ∀ z : Int, z = ((if of = -1 then 6 else of.toNat : Nat) : Int) → AW K YX9_rowOf hX9_rowOf (qI Pq) 11 [some (vi of)] [vi z] N g := by
    intro z hz
    refine t_int rfl iX9_rowOf_11 ?_
    rw [hz]; exact hq
  refine ld_i0 iX9_rowOf_0 ?_
  refine r_iconst iX9_rowOf_1 ?_
  refine r_icmpne iX9_rowOf_2 (by omega) (by omega) (fun h2 => ?_) (fun h2 => ?_)
  · refine ld_i0 iX9_rowOf_10 ?_
    refine tl _ ?_
    first
      | rw [if_pos (by omega)]; rfl
      | rw [if_neg (by omega)]; omega
  · refine r_bipush (by decide) iX9_rowOf_5 ?_
    refine r_goto iX9_rowOf_7 ?_
    refine tl _ ?_
    first
      | rw [if_pos (by omega)]; rfl
      | rw [if_neg (by omega)]; omega
theorem c_fresh {Pq : Nat → Nat → Nm → Ge → Prop} (hX : XS N g d) (h9 : N 0 0 9 = 1) (hq : ∀ N' g', XT N g d N' g' → Dr N' g' d → Pq 7 0 N' g') : Ck K YX9_fresh hX9_fresh [vr 0 0] N g (qR Pq) := by
  obtain ⟨x1, x2, x3⟩ := hX
  obtain ⟨hW, hR, hst, hdr⟩ := x3 h9
  refine Ck.intro 0 (by decide) rfl ?_
  show AW _ _ _ _ _ [some (vr 0 0)] _ _ _
  have hA := hW.1
  refine ld_a0 iX9_fresh_0 ?_
  refine gf_X9_stale kFX9_69 iX9_fresh_1 ?_
  refine r_ifeq iX9_fresh_4 (by omega) (fun h4 => ?_) (fun h4 => ?_)
  · refine ld_a0 iX9_fresh_27 ?_
    refine gf_X9_lines kFX9_26 iX9_fresh_28 ?_
    refine t_ref rfl (Or.inl ⟨_, rfl⟩) iX9_fresh_31 ?_
    first
      | exact hq N g (XT.rf ⟨x1, x2, x3⟩) (hdr h4)
      | (have hD2 : Dr (upN N' 0 0 10 0) g' d := hD.fr hA (fun k i j z1 z2 => upN_k (by omega)) (fun _ _ => rfl)
         refine hq _ _ ⟨fun k i j z1 z2 => ?_, f2, ?_, f2.2.2, fun _ => ⟨hW, ?_, Or.inl (upN_eq _ _ _ _ _), fun _ => hD2⟩⟩ hD2
         · by_cases e : k = 0
           · rw [upN_j (by omega)]; exact f1 k i j (by omega)
           · rw [upN_k e]; exact f1 k i j (by omega)
         · rw [upN_j (by omega), f1 0 0 9 (by omega)]; exact x1
         · rw [f2.1]; exact hR.of (fun k x j q1 q2 => by rw [upN_k (by omega)]; exact f1 k x j (by omega)))
  · refine ld_a0 iX9_fresh_7 ?_
    refine gf_X9_lines kFX9_26 iX9_fresh_8 ?_
    refine ld_a0 iX9_fresh_11 ?_
    refine gf_X9_rules kFX9_58 iX9_fresh_12 ?_
    refine ld_a0 iX9_fresh_15 ?_
    refine gf_X9_point kFX9_19 iX9_fresh_16 ?_
    refine xX2_draw kMX9_360 iX9_fresh_19 (by decide) (Nat.le_of_ble_eq_true rfl) rfl rfl ?_
    refine c_draw hR hW x2 (fun N' g' f1 f2 f3 f4 => ?_)
    have hD : Dr N' g' d := ⟨fun i hi => by
      obtain ⟨P, s, G, b1, b2⟩ := f3 i hi
      obtain ⟨y1, y2⟩ := b1.ln (fun u hu => by have := LF_bd hW hW.2.1 hi u hu; omega) b2
      exact ⟨P, s, G, y1, y2⟩, f4⟩
    refine ld_a0 iX9_fresh_22 ?_
    refine r_iconst iX9_fresh_23 ?_
    refine pf_X9_stale (by omega) kFX9_69 iX9_fresh_24 ?_
    refine ld_a0 iX9_fresh_27 ?_
    refine gf_X9_lines kFX9_26 iX9_fresh_28 ?_
    refine t_ref rfl (Or.inl ⟨_, rfl⟩) iX9_fresh_31 ?_
    first
      | exact hq N g (XT.rf ⟨x1, x2, x3⟩) (hdr h4)
      | (have hD2 : Dr (upN N' 0 0 10 0) g' d := hD.fr hA (fun k i j z1 z2 => upN_k (by omega)) (fun _ _ => rfl)
         refine hq _ _ ⟨fun k i j z1 z2 => ?_, f2, ?_, f2.2.2, fun _ => ⟨hW, ?_, Or.inl (upN_eq _ _ _ _ _), fun _ => hD2⟩⟩ hD2
         · by_cases e : k = 0
           · rw [upN_j (by omega)]; exact f1 k i j (by omega)
           · rw [upN_k e]; exact f1 k i j (by omega)
         · rw [upN_j (by omega), f1 0 0 9 (by omega)]; exact x1
         · rw [f2.1]; exact hR.of (fun k x j q1 q2 => by rw [upN_k (by omega)]; exact f1 k x j (by omega)))
theorem c_xline {of : Int} {Pq : Nat → Nat → Nm → Ge → Prop} (hX : XS N g d) (h9 : N 0 0 9 = 1) (hof : -1 ≤ of ∧ of < dA d) (hq : ∀ N' g' P s G, XT N g d N' g' → Dr N' g' d → Ln N' g' (rwo of) (LF d (dB d) (rwo of)) P s G → Cn (LF d (dB d) (rwo of)) P s G → Pq 12 (rwo of) N' g') : Ck K YX9_line hX9_line [vr 0 0, vi of] N g (qR Pq) := by
  have hA := (hX.2.2 h9).1.1
  have hro := rwo_ok hof
  refine Ck.intro 0 (by decide) rfl ?_
  show AW _ _ _ _ _ [some (vr 0 0), some (vi of)] _ _ _
  refine ld_a0 iX9_line_0 ?_
  refine xX9_fresh kMX9_142 iX9_line_1 (by decide) (Nat.le_of_ble_eq_true rfl) rfl rfl ?_
  refine c_fresh hX h9 (fun N' g' f1 f2 => ?_)
  refine gf_X2_all kFX9_356 iX9_line_4 ?_
  refine ld_i1 iX9_line_7 ?_
  refine xX9_rowOf kMX9_165 iX9_line_8 (by decide) (Nat.le_of_ble_eq_true rfl) rfl rfl ?_
  refine c_rowOf (by omega) (by omega) ?_
  refine al_8 rfl (by omega) iX9_line_11 ?_
  refine t_ref rfl (Or.inl ⟨_, rfl⟩) iX9_line_12 ?_
  obtain ⟨P, s, G, y1, y2⟩ := f2.1 _ hro
  exact hq N' g' P s G f1 f2 y1 y2
theorem c_xisWage {w : Int} {Pq : Int → Nm → Ge → Prop} (hw : rI w) (hq : Pq (tf (0 ≤ w ∧ w ≤ 9999)) N g) : Ck K YX9_isWage hX9_isWage [vi w] N g (qI Pq) := by
  refine Ck.intro 0 (by decide) rfl ?_
  show AW _ _ _ _ _ [some (vi w)] _ _ _
  unfold tf at hq
  have tl : ∀ z : Int, z = (if 0 ≤ w ∧ w ≤ 9999 then 1 else 0) → AW K YX9_isWage hX9_isWage (qI Pq) 16 [some (vi w)] [vi z] N g := by
    intro z hz
    rw [← hz] at hq
    have hz2 : z = 0 ∨ z = 1 := by rw [hz]; split <;> omega
    refine t_bool rfl (by omega) iX9_isWage_16 ?_
    exact hq
  refine ld_i0 iX9_isWage_0 ?_
  refine r_iflt iX9_isWage_1 (by omega) (fun h1 => ?_) (fun h1 => ?_)
  · refine r_iconst iX9_isWage_15 ?_
    refine tl _ ?_
    first
      | rw [if_pos (by omega)]
      | rw [if_neg (by omega)]
  · refine ld_i0 iX9_isWage_4 ?_
    refine r_sipush (by decide) iX9_isWage_5 ?_
    refine r_icmpgt iX9_isWage_8 (by omega) (by omega) (fun h8 => ?_) (fun h8 => ?_)
    · refine r_iconst iX9_isWage_15 ?_
      refine tl _ ?_
      first
        | rw [if_pos (by omega)]
        | rw [if_neg (by omega)]
    · refine r_iconst iX9_isWage_11 ?_
      refine r_goto iX9_isWage_12 ?_
      refine tl _ ?_
      first
        | rw [if_pos (by omega)]
        | rw [if_neg (by omega)]
theorem c_xisAccount {a : Int} {Pq : Int → Nm → Ge → Prop} (hX : XS N g d) (hr : rI a) (hq : Pq (tf (N 0 0 9 = 1 ∧ 0 ≤ a ∧ a < dA d)) N g) : Ck K YX9_isAccount hX9_isAccount [vr 0 0, vi a] N g (qI Pq) := by
  have h01 := hX.1
  refine Ck.intro 0 (by decide) rfl ?_
  show AW _ _ _ _ _ [some (vr 0 0), some (vi a)] _ _ _
  unfold tf at hq
  have tl : ∀ z : Int, z = (if N 0 0 9 = 1 ∧ 0 ≤ a ∧ a < dA d then 1 else 0) → AW K YX9_isAccount hX9_isAccount (qI Pq) 27 [some (vr 0 0), some (vi a)] [vi z] N g := by
    intro z hz
    rw [← hz] at hq
    have hz2 : z = 0 ∨ z = 1 := by rw [hz]; split <;> omega
    refine t_bool rfl (by omega) iX9_isAccount_27 ?_
    exact hq
  refine ld_a0 iX9_isAccount_0 ?_
  refine gf_X9_hasDesk kFX9_65 iX9_isAccount_1 ?_
  refine r_ifeq iX9_isAccount_4 (by omega) (fun h4 => ?_) (fun h4 => ?_)
  · refine r_iconst iX9_isAccount_26 ?_
    refine tl _ ?_
    first
      | rw [if_pos (by omega)]
      | rw [if_neg (by omega)]
  · obtain ⟨hW, hR, -⟩ := hX.2.2 (by omega)
    have hA := hW.1
    refine ld_i1 iX9_isAccount_7 ?_
    refine r_iflt iX9_isAccount_8 (by omega) (fun h8 => ?_) (fun h8 => ?_)
    · refine r_iconst iX9_isAccount_26 ?_
      refine tl _ ?_
      first
        | rw [if_pos (by omega)]
        | rw [if_neg (by omega)]
    · refine ld_i1 iX9_isAccount_11 ?_
      refine ld_a0 iX9_isAccount_12 ?_
      refine gf_X9_rules kFX9_58 iX9_isAccount_13 ?_
      refine gf_X5_accounts kFX9_91 iX9_isAccount_16 ?_
      rw [hR.1]
      refine r_icmpge iX9_isAccount_19 (by omega) (by omega) (fun h19 => ?_) (fun h19 => ?_)
      · refine r_iconst iX9_isAccount_26 ?_
        refine tl _ ?_
        first
          | rw [if_pos (by omega)]
          | rw [if_neg (by omega)]
      · refine r_iconst iX9_isAccount_22 ?_
        refine r_goto iX9_isAccount_23 ?_
        refine tl _ ?_
        first
          | rw [if_pos (by omega)]
          | rw [if_neg (by omega)]
theorem c_xisLine {a : Int} {Pq : Int → Nm → Ge → Prop} (hX : XS N g d) (hr : rI a) (hq : Pq (tf (N 0 0 9 = 1 ∧ -1 ≤ a ∧ a < dA d)) N g) : Ck K YX9_isLine hX9_isLine [vr 0 0, vi a] N g (qI Pq) := by
  have h01 := hX.1
  refine Ck.intro 0 (by decide) rfl ?_
  show AW _ _ _ _ _ [some (vr 0 0), some (vi a)] _ _ _
  unfold tf at hq
  have tl : ∀ z : Int, z = (if N 0 0 9 = 1 ∧ -1 ≤ a ∧ a < dA d then 1 else 0) → AW K YX9_isLine hX9_isLine (qI Pq) 28 [some (vr 0 0), some (vi a)] [vi z] N g := by
    intro z hz
    rw [← hz] at hq
    have hz2 : z = 0 ∨ z = 1 := by rw [hz]; split <;> omega
    refine t_bool rfl (by omega) iX9_isLine_28 ?_
    exact hq
  refine ld_a0 iX9_isLine_0 ?_
  refine gf_X9_hasDesk kFX9_65 iX9_isLine_1 ?_
  refine r_ifeq iX9_isLine_4 (by omega) (fun h4 => ?_) (fun h4 => ?_)
  · refine r_iconst iX9_isLine_27 ?_
    refine tl _ ?_
    first
      | rw [if_pos (by omega)]
      | rw [if_neg (by omega)]
  · obtain ⟨hW, hR, -⟩ := hX.2.2 (by omega)
    have hA := hW.1
    refine ld_i1 iX9_isLine_7 ?_
    refine r_iconst iX9_isLine_8 ?_
    refine r_icmplt iX9_isLine_9 (by omega) (by omega) (fun h9 => ?_) (fun h9 => ?_)
    · refine r_iconst iX9_isLine_27 ?_
      refine tl _ ?_
      first
        | rw [if_pos (by omega)]
        | rw [if_neg (by omega)]
    · refine ld_i1 iX9_isLine_12 ?_
      refine ld_a0 iX9_isLine_13 ?_
      refine gf_X9_rules kFX9_58 iX9_isLine_14 ?_
      refine gf_X5_accounts kFX9_91 iX9_isLine_17 ?_
      rw [hR.1]
      refine r_icmpge iX9_isLine_20 (by omega) (by omega) (fun h20 => ?_) (fun h20 => ?_)
      · refine r_iconst iX9_isLine_27 ?_
        refine tl _ ?_
        first
          | rw [if_pos (by omega)]
          | rw [if_neg (by omega)]
      · refine r_iconst iX9_isLine_23 ?_
        refine r_goto iX9_isLine_24 ?_
        refine tl _ ?_
        first
          | rw [if_pos (by omega)]
          | rw [if_neg (by omega)]
/-- a segment of an account -/
def IsSg (d : Dk) (a s : Int) : Prop := (0 ≤ a ∧ a < dA d) ∧ 0 ≤ s ∧ s < dS d a.toNat
theorem c_xisSegment {a s : Int} {Pq : Int → Nm → Ge → Prop} (hX : XS N g d) (hr : rI a) (hs : rI s) (hq1 : N 0 0 9 = 1 → IsSg d a s → Pq 1 N g) (hq0 : ¬ (N 0 0 9 = 1 ∧ IsSg d a s) → Pq 0 N g) : Ck K YX9_isSegment hX9_isSegment [vr 0 0, vi a, vi s] N g (qI Pq) := by
  have h01 := hX.1
  refine Ck.intro 0 (by decide) rfl ?_
  show AW _ _ _ _ _ [some (vr 0 0), some (vi a), some (vi s)] _ _ _
  have t0 : ¬ (N 0 0 9 = 1 ∧ IsSg d a s) → AW K YX9_isSegment hX9_isSegment (qI Pq) 29 [some (vr 0 0), some (vi a), some (vi s)] [] N g := by
    intro hn
    have hq0 := hq0 hn
    refine r_iconst iX9_isSegment_29 ?_
    refine t_bool rfl (by omega) iX9_isSegment_30 ?_
    exact hq0
  refine ld_a0 iX9_isSegment_0 ?_
  refine ld_i1 iX9_isSegment_1 ?_
  refine xX9_isAccount kMX9_111 iX9_isSegment_2 (by decide) (Nat.le_of_ble_eq_true rfl) rfl rfl ?_
  refine c_xisAccount hX hr ?_
  unfold tf
  refine r_ifeq iX9_isSegment_5 (by split <;> omega) (fun h5 => ?_) (fun h5 => ?_)
  · refine t0 (fun hc => ?_)
    unfold IsSg at hc
    first
      | omega
      | (rw [if_pos (by omega)] at h5; omega)
  · have hg : N 0 0 9 = 1 ∧ 0 ≤ a ∧ a < dA d := by split at h5 <;> omega
    obtain ⟨hW, hR, -⟩ := hX.2.2 (by omega)
    have hA := hW.1
    have hS := (hW.2.2.1 a.toNat (by omega)).1
    have hS6 := hS.2.1
    have r27 := (hR.2.2.2.1 a.toNat (by omega)).2.1
    refine ld_i2 iX9_isSegment_8 ?_
    refine r_iflt iX9_isSegment_9 (by omega) (fun h9 => ?_) (fun h9 => ?_)
    · refine t0 (fun hc => ?_)
      unfold IsSg at hc
      first
        | omega
        | (rw [if_pos (by omega)] at h5; omega)
    · refine ld_i2 iX9_isSegment_12 ?_
      refine ld_a0 iX9_isSegment_13 ?_
      refine gf_X9_rules kFX9_58 iX9_isSegment_14 ?_
      refine gf_X5_segmentCounts kFX9_122 iX9_isSegment_17 ?_
      refine ld_i1 iX9_isSegment_20 ?_
      refine al_27 (n := (a.toNat)) (by omega) (by omega) iX9_isSegment_21 ?_
      rw [r27]
      refine r_icmpge iX9_isSegment_22 (by omega) (by omega) (fun h22 => ?_) (fun h22 => ?_)
      · refine t0 (fun hc => ?_)
        unfold IsSg at hc
        first
          | omega
          | (rw [if_pos (by omega)] at h5; omega)
      · refine r_iconst iX9_isSegment_25 ?_
        refine r_goto iX9_isSegment_26 ?_
        refine t_bool rfl (by omega) iX9_isSegment_30 ?_
        exact hq1 hg.1 ⟨hg.2, by omega, by omega⟩
end Class9
