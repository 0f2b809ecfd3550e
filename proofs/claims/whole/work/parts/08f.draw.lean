/-! own text: the class draws its lines, all of them -/
/-- the line in row r over whole wages -/
def LF (d : Dk) (b : Int) (r : Nat) (w : Nat) : Int := if r = 6 then paid d b (-1) 0 w else VA d b (-1) 0 w r
def sgW (d : Dk) (b : Int) (a : Nat) (w : Nat) : Nat := segV d a (sumV d b w (VA d b (-1) 0 w) a)
def GeA (g g' : Ge) : Prop := g'.1 = g.1 ∧ g'.2.1 = g.2.1 ∧ ∀ i, i ≤ 7 → RmOK (g'.2.2 i)
theorem GeA.tr {a b c : Ge} (h1 : GeA a b) (h2 : GeA b c) : GeA a c := ⟨h2.1.trans h1.1, h2.2.1.trans h1.2.1, h2.2.2⟩
theorem GeA.l {a b c : Ge} {i : Nat} (h1 : GeA a b) (h2 : GeL i b c) : GeA a c := ⟨h2.1.trans h1.1, h2.2.1.trans h1.2.1, fun j hj => by
  by_cases e : j = i
  · rw [e]; exact h2.2.2.2
  · rw [h2.2.2.1 j e]; exact h1.2.2 j hj⟩
def LnT (N : Nm) (g : Ge) (d : Dk) (b : Int) (r T : Nat) : Prop := ∃ P s G, Bd N g r (LF d b r) P s G T ∧ ∀ p, p < P → -1000000000000000000 ≤ G p ∧ G p ≤ 1000000000000000000
def CtT (N : Nm) (d : Dk) (b : Int) (a T : Nat) : Prop := ∀ q, q < 6 → N 10 a q = ct (fun u => decide (sgW d b a u = q)) T
theorem Bd.fr {N N' : Nm} {g g' : Ge} {i : Nat} {F : Nat → Int} {P : Nat} {s : Nat → Nat} {G : Nat → Int} {T : Nat} (h : Bd N g i F P s G T) (hN : ∀ k j, 12 ≤ k → k ≤ 15 → N' k i j = N k i j) (hg : g'.2.2 i = g.2.2 i) : Bd N' g' i F P s G T := by
  obtain ⟨hN0, hRw, hN4, hN5, hN6, hN7, hPr, hRm, hPb⟩ := h
  refine ⟨by rw [hN 12 0 (by omega) (by omega)]; exact hN0, fun p hp => ?_, by rw [hN 12 4 (by omega) (by omega)]; exact hN4, by rw [hN 12 5 (by omega) (by omega)]; exact hN5, by rw [hN 12 6 (by omega) (by omega)]; exact hN6, by rw [hN 12 7 (by omega) (by omega)]; exact hN7, by rw [hg]; exact hPr, by rw [hg]; exact hRm, hPb⟩
  rw [hN 13 p (by omega) (by omega), hN 14 p (by omega) (by omega), hN 15 p (by omega) (by omega)]; exact hRw p hp
theorem LnT.fr {N N' : Nm} {g g' : Ge} {d : Dk} {b : Int} {i T : Nat} (h : LnT N g d b i T) (hN : ∀ k j, 12 ≤ k → k ≤ 15 → N' k i j = N k i j) (hg : g'.2.2 i = g.2.2 i) : LnT N' g' d b i T := by
  obtain ⟨P, s, G, h1, h2⟩ := h
  exact ⟨P, s, G, h1.fr hN hg, h2⟩
theorem LF_bd {d : Dk} (hW : WD d) {b : Int} (hb : 0 ≤ b ∧ b ≤ 999) {r : Nat} (hr : r < dA d ∨ r = 6) (u : Nat) (hu : u < 10000) : -132000000000000000 ≤ LF d b r u ∧ LF d b r u ≤ 132000000000000000 := by
  have hA := hW.1
  unfold LF
  by_cases e : r = 6
  · rw [if_pos e]
    exact paid_bd hW hb (by omega) (fun a _ q => by omega)
  · rw [if_neg e]
    have vb := val_bd hW hb (w := u) (by omega) (hd := -1) (hv := 0) (fun a _ q => by omega) (dA d) (Nat.le_refl _) r (by omega)
    have := VB_le (dD d r)
    omega
section Draw8
variable {K : Kx} {N : Nm} {g : Ge} {r : Nat} {d : Dk}
theorem drawIn {N2 N' : Nm} {g' : Ge} {w f : Nat} {Pq : Nm → Ge → Prop} (hR : RuI N' r d) (hW : WD d) (hF2 : FrX 4 15 N' N2) (hGe : GeA g g') (hwf : w + f < 10000) (h5 : ∀ a, a < dA d → N2 5 0 a = VA d (dB d) (-1) 0 w a) (h6 : ∀ a, a < dA d → N2 6 0 a = segV d a (sumV d (dB d) w (VA d (dB d) (-1) 0 w) a)) (h56 : N2 5 0 6 = paid d (dB d) (-1) 0 w)
    (F3 : IsG d (fun a => sumV d (dB d) w (VA d (dB d) (-1) 0 w) a) (fun a => N2 11 0 a) (dA d)) (F4 : ∀ a, a < dA d → (f : Int) ≤ rc d a (sumV d (dB d) w (VA d (dB d) (-1) 0 w) a) (gst d (fun a => N2 11 0 a) a)) (F5 : N2 11 0 6 = gst d (fun a => N2 11 0 a) 6)
    (kk : ∀ N3 g3, FrX 4 15 N2 N3 → GeA g g3 → (∀ i, i < dA d ∨ i = 6 → LnT N3 g3 d (dB d) i (w + f + 1)) → (∀ a, a < dA d → CtT N3 d (dB d) a (w + f + 1)) → AW K YX2_draw hX2_draw (qV Pq) 31 [some (vr 7 0), some (vr 20 r), some (vr 3 0), some (vi f), some (vi ((w : Int) + ((f : Int) + 1))), none] [] N3 g3) :
    ∀ (n a : Nat) (c : Int) (N3 : Nm) (g3 : Ge), dA d - a = n → a ≤ dA d → c = a → FrX 4 15 N2 N3 → (∀ k i j, k ≤ 9 ∨ k = 11 → N3 k i j = N2 k i j) → GeA g g3 → (∀ i, i < a → LnT N3 g3 d (dB d) i (w + f + 1) ∧ CtT N3 d (dB d) i (w + f + 1)) → (∀ i, a ≤ i → (0 < w → i < dA d ∨ i = 6 → LnT N3 g3 d (dB d) i w) ∧ (i < dA d → CtT N3 d (dB d) i w)) → AW K YX2_draw hX2_draw (qV Pq) 63 [some (vr 7 0), some (vr 20 r), some (vr 3 0), some (vi f), some (vi w), some (vi c)] [] N3 g3 := by
  have hA := hW.1
  have hb := hW.2.1
  have nst : ∀ k : Nat, k ≤ f → ∀ a, a < dA d → _ := fun k hk => stretch hW (k := k) (by omega) F3 (fun a ha => by have := F4 a ha; omega) (dA d) (Nat.le_refl _)
  intro n
  induction n using Nat.strongRecOn with
  | _ n ih =>
    intro a c N3 g3 e3 ha hc k1 k2 k3 k4 k5
    subst hc
    have hR3 : RuI N3 r d := hR.of (fun k x j q1 q2 => (k1 k x j (by omega)).trans (hF2 k x j (by omega)))
    have ex : ∀ i, a ≤ i → (i < dA d ∨ i = 6) → ∃ P s G, 0 < w → Bd N3 g3 i (LF d (dB d) i) P s G w ∧ ∀ p, p < P → -1000000000000000000 ≤ G p ∧ G p ≤ 1000000000000000000 := fun i hi hi2 => by
      rcases Nat.eq_zero_or_pos w with q | q
      · exact ⟨0, fun _ => 0, fun _ => 0, fun z => by omega⟩
      · obtain ⟨P, s, G, h1, h2⟩ := (k5 i hi).1 q hi2
        exact ⟨P, s, G, fun _ => ⟨h1, h2⟩⟩
    refine ld_i5 iX2_draw_63 ?_
    refine ld_a1 iX2_draw_65 ?_
    refine gf_X5_accounts kFX2_27 iX2_draw_66 ?_
    rw [hR3.1]
    refine r_icmpge iX2_draw_69 (by omega) (by omega) (fun h69 => ?_) (fun h69 => ?_)
    · have e : a = dA d := by omega
      obtain ⟨P, s, G, hB⟩ := ex 6 (by omega) (Or.inr rfl)
      have gb := gn6_bd hW F3
      have lfe : ∀ u : Nat, LF d (dB d) 6 u = paid d (dB d) (-1) 0 u := fun u => if_pos rfl
      refine ld_a0 iX2_draw_126 ?_
      refine gf_X2_all kFX2_11 iX2_draw_127 ?_
      refine r_bipush (by decide) iX2_draw_130 ?_
      refine al_8 (n := 6) (by omega) (by omega) iX2_draw_132 ?_
      refine ld_i4 iX2_draw_133 ?_
      refine ld_a2 iX2_draw_135 ?_
      refine gf_X3_values kFX2_49 iX2_draw_136 ?_
      refine r_bipush (by decide) iX2_draw_139 ?_
      refine al_5 (n := 6) (by omega) (by omega) iX2_draw_141 ?_
      rw [show N3 5 0 6 = LF d (dB d) 6 w by rw [k2 5 _ _ (by omega), h56, lfe]]
      refine ld_a0 iX2_draw_142 ?_
      refine gf_X2_gains kFX2_22 iX2_draw_143 ?_
      refine r_bipush (by decide) iX2_draw_146 ?_
      refine al_11 (n := 6) (by omega) (by omega) iX2_draw_148 ?_
      rw [show N3 11 0 6 = gst d (fun a => N2 11 0 a) 6 by rw [k2 11 _ _ (by omega), F5]]
      refine ld_i3 iX2_draw_149 ?_
      refine xX1_addStretch kMX2_52 iX2_draw_150 (by decide) (Nat.le_of_ble_eq_true rfl) rfl rfl ?_
      refine c_addStretch (F := LF d (dB d) 6) (fun u hu => by have := LF_bd hW hb (Or.inr rfl) u hu; omega) (fun k hk => ?_) hwf (by omega) (k3.2.2 6 (by omega)) hB (fun N4 g4 P4 s4 G4 m1 m2 m3 m4 => ?_)
      · rw [lfe, lfe, show ((w + k : Nat) : Int) = (w : Int) + k by omega]; exact stretch6 hW (by omega) F3 (fun a ha => by have := F4 a ha; omega)
      refine ld_i4 iX2_draw_153 ?_
      refine ld_i3 iX2_draw_155 ?_
      refine r_iconst iX2_draw_156 ?_
      refine r_iadd iX2_draw_157 ?_
      refine r_iadd iX2_draw_158 ?_
      refine sv_i4 (by decide) rfl iX2_draw_159 ?_
      refine r_goto iX2_draw_161 ?_
      refine fg_5 ?_
      refine kk _ _ (fun k i j q => (m1 k i j (by omega)).trans (k1 k i j q)) (k3.l m2) (fun i hi => ?_) (fun i hi q hq => by rw [m1 10 _ _ (by omega)]; exact (k4 i (by omega)).2 q hq)
      by_cases e : i = 6
      · rw [e]; exact ⟨P4, s4, G4, m3, m4⟩
      · exact (k4 i (by omega)).1.fr (fun k j q1 q2 => m1 k i j (by omega)) (m2.2.2.1 i e)
    · have ha1 : a < dA d := by omega
      obtain ⟨P, s, G, hB⟩ := ex a (Nat.le_refl _) (Or.inl ha1)
      have gb := gn_bd hW (dA d) (Nat.le_refl _) F3 a ha1
      have hb0 := HB_le (p := dD d a) (q := 3) (hW.2.2.1 a ha1).2.2.2 (by omega)
      have hb3 : HB 3 = 1728000000000 := rfl
      have lfe : ∀ u : Nat, LF d (dB d) a u = VA d (dB d) (-1) 0 u a := fun u => if_neg (by omega)
      have hsl := segV_lt (hW.2.2.1 a ha1).1 (sumV d (dB d) w (VA d (dB d) (-1) 0 w) a)
      have hs6 := (hW.2.2.1 a ha1).1.2.1
      refine ld_a0 iX2_draw_72 ?_
      refine gf_X2_all kFX2_11 iX2_draw_73 ?_
      refine ld_i5 iX2_draw_76 ?_
      refine al_8 rfl (by omega) iX2_draw_78 ?_
      refine ld_i4 iX2_draw_79 ?_
      refine ld_a2 iX2_draw_81 ?_
      refine gf_X3_values kFX2_49 iX2_draw_82 ?_
      refine ld_i5 iX2_draw_85 ?_
      refine al_5 rfl (by omega) iX2_draw_87 ?_
      rw [show N3 5 0 a = LF d (dB d) a w by rw [k2 5 _ _ (by omega), h5 a ha1, lfe]]
      refine ld_a0 iX2_draw_88 ?_
      refine gf_X2_gains kFX2_22 iX2_draw_89 ?_
      refine ld_i5 iX2_draw_92 ?_
      refine al_11 rfl (by omega) iX2_draw_94 ?_
      rw [show N3 11 0 a = N2 11 0 a from k2 11 _ _ (by omega)]
      refine ld_i3 iX2_draw_95 ?_
      refine xX1_addStretch kMX2_52 iX2_draw_96 (by decide) (Nat.le_of_ble_eq_true rfl) rfl rfl ?_
      refine c_addStretch (F := LF d (dB d) a) (fun u hu => by have := LF_bd hW hb (Or.inl ha1) u hu; omega) (fun k hk => ?_) hwf (by omega) (k3.2.2 a (by omega)) hB (fun N4 g4 P4 s4 G4 m1 m2 m3 m4 => ?_)
      · rw [lfe, lfe, show ((w + k : Nat) : Int) = (w : Int) + k by omega]; exact (nst k hk a ha1).1
      refine ld_a0 iX2_draw_99 ?_
      refine gf_X2_wagesOf kFX2_19 iX2_draw_100 ?_
      refine ld_i5 iX2_draw_103 ?_
      refine al_9 rfl (by omega) iX2_draw_105 ?_
      refine ld_a2 iX2_draw_106 ?_
      refine gf_X3_segments kFX2_56 iX2_draw_107 ?_
      refine ld_i5 iX2_draw_110 ?_
      refine al_6 rfl (by omega) iX2_draw_112 ?_
      rw [show N4 6 0 a = segV d a (sumV d (dB d) w (VA d (dB d) (-1) 0 w) a) by rw [m1 6 _ _ (by omega), k2 6 _ _ (by omega), h6 a ha1]]
      refine r_dup2 rfl rfl iX2_draw_113 ?_
      refine al_10 rfl (by omega) iX2_draw_114 ?_
      rw [m1 10 _ _ (by omega)]
      refine ld_i3 iX2_draw_115 ?_
      refine r_iconst iX2_draw_116 ?_
      refine r_iadd iX2_draw_117 ?_
      refine r_iadd iX2_draw_118 ?_
      refine as_10 rfl (by omega) iX2_draw_119 ?_
      refine inc_5 (by decide) rfl iX2_draw_120 ?_
      refine r_goto iX2_draw_123 ?_
      have hct := (k5 a (Nat.le_refl _)).2 ha1
      refine ih (dA d - (a + 1)) (by omega) (a + 1) _ _ _ rfl (by omega) (by omega) (fun k i j q => ?_) (fun k i j q => ?_) (k3.l m2) (fun i hi => ?_) (fun i hi => ⟨fun q z => ?_, fun z q hq => ?_⟩)
      · rw [upN_k (by omega), m1 k i j (by omega)]; exact k1 k i j q
      · rw [upN_k (by omega), m1 k i j (by omega)]; exact k2 k i j q
      · by_cases e : i = a
        · subst e
          refine ⟨⟨P4, s4, G4, m3.fr (fun k j q1 q2 => upN_k (by omega)) rfl, m4⟩, fun q hq => ?_⟩
          have hsw : ∀ u, w ≤ u → u < w + f + 1 → sgW d (dB d) i u = segV d i (sumV d (dB d) w (VA d (dB d) (-1) 0 w) i) := fun u u1 u2 => by
            have y := (nst (u - w) (by omega) i ha1).2
            rw [show (w : Int) + ((u - w : Nat) : Int) = (u : Int) by omega] at y
            exact y
          by_cases e2 : q = segV d i (sumV d (dB d) w (VA d (dB d) (-1) 0 w) i)
          · subst e2
            rw [upN_eq, hct _ hq, ct_all (fun u => decide (sgW d (dB d) i u = _)) w (w + f + 1) (by omega) (fun u u1 u2 => decide_eq_true (hsw u u1 u2))]; omega
          · rw [upN_j e2, m1 10 _ _ (by omega), hct q hq, ct_none (fun u => decide (sgW d (dB d) i u = _)) w (w + f + 1) (by omega) (fun u u1 u2 => decide_eq_false (by rw [hsw u u1 u2]; omega))]
        · refine ⟨(k4 i (by omega)).1.fr (fun k j q1 q2 => by rw [upN_k (by omega)]; exact m1 k i j (by omega)) (m2.2.2.1 i e), fun q hq => ?_⟩
          rw [upN_i (by omega), m1 10 _ _ (by omega)]; exact (k4 i (by omega)).2 q hq
      · exact ((k5 i (by omega)).1 q z).fr (fun k j q1 q2 => by rw [upN_k (by omega)]; exact m1 k i j (by omega)) (m2.2.2.1 i (by omega))
      · rw [upN_i (by omega), m1 10 _ _ (by omega)]; exact (k5 i (by omega)).2 z q hq
theorem c_draw {Pq : Nm → Ge → Prop} (hR : RuI N r d) (hW : WD d) (hRm : ∀ i, i ≤ 7 → RmOK (g.2.2 i))
    (hq : ∀ N' g', FrX 4 15 N N' → GeA g g' → (∀ i, i < dA d ∨ i = 6 → LnT N' g' d (dB d) i 10000) → (∀ a, a < dA d → CtT N' d (dB d) a 10000) → Pq N' g') : Ck K YX2_draw hX2_draw [vr 7 0, vr 20 r, vr 3 0] N g (qV Pq) := by
  have hA := hW.1
  have hb := hW.2.1
  refine Ck.intro 3 (by decide) rfl ?_
  show AW _ _ _ _ _ [some (vr 7 0), some (vr 20 r), some (vr 3 0), none, none, none] _ _ _
  have outer : ∀ (n w : Nat) (c x : Int) (N' : Nm) (g' : Ge), 10000 - w = n → w ≤ 10000 → c = w → FrX 4 15 N N' → GeA g g' → (0 < w → ∀ i, i < dA d ∨ i = 6 → LnT N' g' d (dB d) i w) → (∀ a, a < dA d → CtT N' d (dB d) a w) → AW K YX2_draw hX2_draw (qV Pq) 31 [some (vr 7 0), some (vr 20 r), some (vr 3 0), some (vi x), some (vi c), none] [] N' g' := by
    intro n
    induction n using Nat.strongRecOn with
    | _ n ih =>
      intro w c x N' g' e hw hc hF hGe hLn hCt
      subst hc
      have hR' : RuI N' r d := hR.of (fun k x j q1 q2 => hF k x j (by omega))
      refine ld_i4 iX2_draw_31 ?_
      refine r_sipush (by decide) iX2_draw_33 ?_
      refine r_icmpgt iX2_draw_36 (by omega) (by omega) (fun h36 => ?_) (fun h36 => ?_)
      · refine t_void rfl iX2_draw_164 ?_
        have e : w = 10000 := by omega
        subst e
        exact hq _ _ hF hGe (hLn (by omega)) hCt
      · refine ld_a2 iX2_draw_39 ?_
        refine ld_a1 iX2_draw_40 ?_
        refine ld_i4 iX2_draw_41 ?_
        refine xX3_reckon kMX2_39 iX2_draw_43 (by decide) (Nat.le_of_ble_eq_true rfl) rfl rfl ?_
        refine c_reckon hR' hW (by omega) (fun N1 f1 f2 f3 => ?_)
        refine r_pop2l rfl iX2_draw_46 ?_
        refine ld_a0 iX2_draw_47 ?_
        refine ld_a1 iX2_draw_48 ?_
        refine ld_a2 iX2_draw_49 ?_
        refine r_sipush (by decide) iX2_draw_50 ?_
        refine ld_i4 iX2_draw_53 ?_
        refine r_isub iX2_draw_55 ?_
        rw [show (9999 : Int) - w = ((9999 - w : Nat) : Int) by omega]
        refine xX2_straightFor kMX2_45 iX2_draw_56 (by decide) (Nat.le_of_ble_eq_true rfl) rfl rfl ?_
        refine c_straightFor (hR'.frp f1) hW hb (by omega) (by omega) f2 (fun N2 f F1 F2 F3 F4 F5 => ?_)
        refine sv_i3 (by decide) rfl iX2_draw_59 ?_
        refine r_iconst iX2_draw_60 ?_
        refine sv_i5 (by decide) rfl iX2_draw_61 ?_
        have hF2 : FrX 4 15 N' N2 := fun k a j q => (F1 k a j (by omega)).trans (f1 k a j (by omega))
        refine drawIn hR' hW hF2 hGe (by omega) (fun a ha => by rw [F1 5 _ _ (by omega)]; exact (f2 a ha).1) (fun a ha => by rw [F1 6 _ _ (by omega)]; exact (f2 a ha).2.2) (by rw [F1 5 _ _ (by omega)]; exact f3) F3 F4 F5 (fun N3 g3 m1 m2 m3 m4 => ?_) (dA d) 0 _ N2 g' (by omega) (by omega) (by omega) (FrX.rf _ _ _) (fun _ _ _ _ => rfl) hGe (fun i hi => by omega) (fun i hi => ⟨fun q z => (hLn q i z).fr (fun k j q1 q2 => by rw [F1 k i j (by omega), f1 k i j (by omega)]) rfl, fun z q hq => by rw [F1 10 i q (by omega), f1 10 i q (by omega)]; exact hCt i z q hq⟩)
        exact ih (10000 - (w + f + 1)) (by omega) (w + f + 1) _ _ N3 g3 rfl (by omega) (by omega) ((hF.tr hF2).tr m1) m2 (fun _ => m3) m4
  have fl : ∀ (n a : Nat) (c : Int) (N' : Nm), dA d - a = n → a ≤ dA d → c = a → FrX 10 10 N N' → (∀ i, i < a → ∀ q, q < 6 → N' 10 i q = 0) → AW K YX2_draw hX2_draw (qV Pq) 2 [some (vr 7 0), some (vr 20 r), some (vr 3 0), some (vi c), none, none] [] N' g := by
    intro n
    induction n using Nat.strongRecOn with
    | _ n ih =>
      intro a c N' e ha hc hF h0
      subst hc
      have hR' : RuI N' r d := hR.of (fun k x j q1 q2 => hF k x j (by omega))
      refine ld_i3 iX2_draw_2 ?_
      refine ld_a1 iX2_draw_3 ?_
      refine gf_X5_accounts kFX2_27 iX2_draw_4 ?_
      rw [hR'.1]
      refine r_icmpge iX2_draw_7 (by omega) (by omega) (fun h7 => ?_) (fun h7 => ?_)
      · refine r_iconst iX2_draw_26 ?_
        refine sv_i3 (by decide) rfl iX2_draw_27 ?_
        refine r_iconst iX2_draw_28 ?_
        refine sv_i4 (by decide) rfl iX2_draw_29 ?_
        refine outer 10000 0 _ _ _ _ (by omega) (by omega) (by omega) (hF.wk (by omega) (by omega)) ⟨rfl, rfl, hRm⟩ (fun q => by omega) (fun i hi q hq => ?_)
        rw [h0 i (by omega) q hq]; rfl
      · refine ld_a0 iX2_draw_10 ?_
        refine gf_X2_wagesOf kFX2_19 iX2_draw_11 ?_
        refine ld_i3 iX2_draw_14 ?_
        refine al_9 rfl (by omega) iX2_draw_15 ?_
        refine r_iconst iX2_draw_16 ?_
        refine xJ7_fill_53178 kMX2_33 iX2_draw_17 (by decide) (Nat.le_of_ble_eq_true rfl) rfl rfl ?_
        refine c_fill (k := 10) (i := a) (L := 6) rfl rfl (by omega) (fun N1 f1 f2 => ?_)
        refine inc_3 (by decide) rfl iX2_draw_20 ?_
        refine r_goto iX2_draw_23 ?_
        refine ih (dA d - (a + 1)) (by omega) (a + 1) _ _ rfl (by omega) (by omega) (fun k i j q => (f1 k i j (by omega)).trans (hF k i j q)) (fun i hi q hq => ?_)
        by_cases e : i = a
        · rw [e]; exact f2 q hq
        · rw [f1 10 i q (by omega)]; exact h0 i (by omega) q hq
  refine r_iconst iX2_draw_0 ?_
  refine sv_i3 (by decide) rfl iX2_draw_1 ?_
  exact fl (dA d) 0 _ N (by omega) (by omega) (by omega) (FrX.rf _ _ _) (fun i hi => by omega)
end Draw8
