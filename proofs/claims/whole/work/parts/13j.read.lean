/-! own text: the class tells the fault of its tape, takes a desk from it -/
theorem RuI.fr {N N' : Nm} {r : Nat} {d : Dk} (h : RuI N r d) (hA : dA d ≤ 6) (f0 : ∀ k j, k = 20 ∨ k = 21 ∨ k = 26 ∨ k = 27 → N' k r j = N k r j) (f7 : ∀ k a j, k = 23 ∨ k = 25 → a < 7 → N' k (7 * r + a) j = N k (7 * r + a) j) (f6 : ∀ k a j, k = 29 ∨ k = 31 ∨ k = 33 ∨ k = 35 → a < 6 → N' k (6 * r + a) j = N k (6 * r + a) j) : RuI N' r d := by
  obtain ⟨h1, h2, h3, h4, h5⟩ := h
  refine ⟨by rw [f0 20 _ (by omega)]; exact h1, by rw [f0 20 _ (by omega)]; exact h2, fun a ha => ?_, fun a ha => ?_, fun a ha q hq => ?_⟩
  · obtain ⟨e1, e2⟩ := h3 a ha
    exact ⟨by rw [f0 21 _ (by omega)]; exact e1, fun j hj => by rw [f7 23 _ _ (by omega) (by omega), f7 25 _ _ (by omega) (by omega)]; exact e2 j hj⟩
  · obtain ⟨e1, e2, e3⟩ := h4 a ha
    exact ⟨by rw [f0 26 _ (by omega)]; exact e1, by rw [f0 27 _ (by omega)]; exact e2, fun q hq => by rw [f6 29 _ _ (by omega) (by omega), f6 31 _ _ (by omega) (by omega), f6 33 _ _ (by omega) (by omega)]; exact e3 q hq⟩
  · rw [f6 35 _ _ (by omega) (by omega)]; exact h5 a ha q hq
/-- rules and draft are two -/
def G2 (g : Ge) : Prop := (g.1 = 0 ∧ g.2.1 = 1) ∨ (g.1 = 1 ∧ g.2.1 = 0)
theorem XS.fe {N N' : Nm} {g : Ge} {d : Dk} (h : XS N g d) (hg : G2 g) (f : FrE g.2.1 N N') : XS N' g d := by
  unfold G2 at hg
  refine ⟨by rw [f 0 0 9 (by omega) (by omega) (by omega) (by omega)]; exact h.1, h.2.1, fun z => ?_⟩
  rw [f 0 0 9 (by omega) (by omega) (by omega) (by omega)] at z
  obtain ⟨a1, a2, a3, a4⟩ := h.2.2 z
  have hA := a1.1
  refine ⟨a1, a2.fr hA (fun k j y => f k _ j (by omega) (by omega) (by omega) (by omega)) (fun k a j y1 y2 => f k _ j (by omega) (by omega) (by omega) (by omega)) (fun k a j y1 y2 => f k _ j (by omega) (by omega) (by omega) (by omega)), by rw [f 0 0 10 (by omega) (by omega) (by omega) (by omega)]; exact a3, fun y => ?_⟩
  rw [f 0 0 10 (by omega) (by omega) (by omega) (by omega)] at y
  exact (a4 y).fr hA (fun k i j y1 y2 => f k i j (by omega) (by omega) (by omega) (by omega)) (fun _ _ => rfl)
/-- the fault, -1: none -/
def fltA (P : Nat ⊕ Dk) : Int := match P with
  | .inl w => w
  | .inr _ => -1
theorem RdE.flt {N' : Nm} {r : Nat} {P : Nat ⊕ Dk} {z : Int} (h : RdE N' r P z) : z = fltA P := by
  rcases h with ⟨w, rfl, h⟩ | ⟨d', rfl, h, -⟩
  · exact h
  · exact h
/-- nothing has changed but the Reader, the Rules r, how many months passed, whether there is a desk and whether lines are stale -/
def FrK (r : Nat) (N N' : Nm) : Prop := ∀ k i j, ¬ (k = 1 ∧ 1 ≤ j) → ¬ (k = 16 ∧ j = 1) → ¬ (k = 0 ∧ (j = 9 ∨ j = 10)) → ¬ ((k = 20 ∨ k = 21 ∨ k = 26 ∨ k = 27) ∧ i = r) → ¬ ((k = 23 ∨ k = 25) ∧ 7 * r ≤ i ∧ i < 7 * r + 7) → ¬ ((k = 29 ∨ k = 31 ∨ k = 33 ∨ k = 35) ∧ 6 * r ≤ i ∧ i < 6 * r + 6) → N' k i j = N k i j
section Read3
variable {K : Kx} {N : Nm} {g : Ge} {T : Nat → Int} {L : Nat} {d : Dk}
theorem x_fault {Pq : Int → Nm → Ge → Prop} (hX : XS N g d) (hg : G2 g) (hT : Tp N T L) (hq : ∀ N', FrE g.2.1 N N' → XS N' g d → Pq (fltA (pDesk T L 8 0 dk0 false)) N' g) : Ck K YX9_fault hX9_fault [vr 0 0] N g (qI Pq) := by
  refine Ck.intro 0 (by decide) rfl ?_
  show AW _ _ _ _ _ [some (vr 0 0)] _ _ _
  refine ld_a0 iX9_fault_0 ?_
  refine gf_X9_reader kFX9_12 iX9_fault_1 ?_
  refine ld_a0 iX9_fault_4 ?_
  refine gf_X9_draft kFX9_62 iX9_fault_5 ?_
  refine xX4_read kMX9_84 iX9_fault_8 (by decide) (Nat.le_of_ble_eq_true rfl) rfl rfl ?_
  refine c_read hT (fun z N1 hz f1 e1 => ?_)
  refine t_int rfl iX9_fault_11 ?_
  rw [e1.flt]
  exact hq N1 f1 (hX.fe hg f1)
theorem x_desk {Pq : Int → Nm → Ge → Prop} (hX : XS N g d) (hg : G2 g) (hT : Tp N T L) (hq0 : ∀ w, pDesk T L 8 0 dk0 false = .inl w → ∀ N', FrE g.2.1 N N' → XS N' g d → Pq (-1) N' g) (hq1 : ∀ d', pDesk T L 8 0 dk0 false = .inr d' → WD d' → ∀ N', XS N' (g.2.1, g.1, g.2.2) d' → N' 0 0 9 = 1 → N' 1 0 1 = 0 → N' 16 0 1 = 0 → FrK g.2.1 N N' → Pq (dA d') N' (g.2.1, g.1, g.2.2)) : Ck K YX9_desk hX9_desk [vr 0 0] N g (qI Pq) := by
  refine Ck.intro 1 (by decide) rfl ?_
  show AW _ _ _ _ _ [some (vr 0 0), none] _ _ _
  refine ld_a0 iX9_desk_0 ?_
  refine gf_X9_reader kFX9_12 iX9_desk_1 ?_
  refine ld_a0 iX9_desk_4 ?_
  refine gf_X9_draft kFX9_62 iX9_desk_5 ?_
  refine xX4_read kMX9_84 iX9_desk_8 (by decide) (Nat.le_of_ble_eq_true rfl) rfl rfl ?_
  refine c_read hT (fun z N1 hz f1 e1 => ?_)
  refine r_iconst iX9_desk_11 ?_
  refine r_icmpeq iX9_desk_12 (by omega) (by omega) (fun h12 => ?_) (fun h12 => ?_)
  · obtain ⟨d', hw, hR, hW⟩ : ∃ d', pDesk T L 8 0 dk0 false = .inr d' ∧ RuI N1 g.2.1 d' ∧ WD d' := by
      rcases e1 with ⟨w, hw, hz1⟩ | ⟨d', hw, hz1, hR, hW⟩
      · omega
      · exact ⟨d', hw, hR, hW⟩
    refine ld_a0 iX9_desk_17 ?_
    refine gf_X9_rules kFX9_58 iX9_desk_18 ?_
    refine sv_a1 (by decide) rfl iX9_desk_21 ?_
    refine ld_a0 iX9_desk_22 ?_
    refine ld_a0 iX9_desk_23 ?_
    refine gf_X9_draft kFX9_62 iX9_desk_24 ?_
    refine pf_X9_rules kFX9_58 iX9_desk_27 ?_
    refine ld_a0 iX9_desk_30 ?_
    refine ld_a1 iX9_desk_31 ?_
    refine pf_X9_draft kFX9_62 iX9_desk_32 ?_
    refine ld_a0 iX9_desk_35 ?_
    refine gf_X9_reader kFX9_12 iX9_desk_36 ?_
    refine r_iconst iX9_desk_39 ?_
    refine pf_X4_length kFX9_76 iX9_desk_40 ?_
    refine ld_a0 iX9_desk_43 ?_
    refine gf_X9_months kFX9_40 iX9_desk_44 ?_
    refine r_iconst iX9_desk_47 ?_
    refine pf_X8_passed kFX9_88 iX9_desk_48 ?_
    refine ld_a0 iX9_desk_51 ?_
    refine r_iconst iX9_desk_52 ?_
    refine pf_X9_hasDesk (by omega) kFX9_65 iX9_desk_53 ?_
    refine ld_a0 iX9_desk_56 ?_
    refine r_iconst iX9_desk_57 ?_
    refine pf_X9_stale (by omega) kFX9_69 iX9_desk_58 ?_
    refine ld_a0 iX9_desk_61 ?_
    refine gf_X9_rules kFX9_58 iX9_desk_62 ?_
    refine gf_X5_accounts kFX9_91 iX9_desk_65 ?_
    rw [upN_k (by decide), upN_k (by decide), upN_k (by decide), upN_k (by decide), hR.1]
    refine t_int rfl iX9_desk_68 ?_
    refine hq1 d' hw hW _ ⟨Or.inr ?_, hX.2.1, fun _ => ⟨hW, ?_, Or.inr (upN_eq _ _ _ _ _), fun y => ?_⟩⟩ ?_ ?_ ?_ (fun k i j y1 y2 y3 y4 y5 y6 => ?_)
    · rw [upN_j (by decide), upN_eq]
    · exact hR.of (fun k a j y1 y2 => by rw [upN_k (by omega), upN_k (by omega), upN_k (by omega), upN_k (by omega)])
    · rw [upN_eq] at y; omega
    · rw [upN_j (by decide), upN_eq]
    · rw [upN_k (by decide), upN_k (by decide), upN_k (by decide), upN_eq]
    · rw [upN_k (by decide), upN_k (by decide), upN_eq]
    · rw [show ∀ A v, upN A 0 0 10 v k i j = A k i j from fun A v => if_neg (fun y => by omega), show ∀ A v, upN A 0 0 9 v k i j = A k i j from fun A v => if_neg (fun y => by omega), show ∀ A v, upN A 16 0 1 v k i j = A k i j from fun A v => if_neg (fun y => by omega), show ∀ A v, upN A 1 0 1 v k i j = A k i j from fun A v => if_neg (fun y => by omega)]
      exact f1 k i j (by omega) y4 y5 y6
  · refine r_iconst iX9_desk_15 ?_
    refine t_int rfl iX9_desk_16 ?_
    rcases e1 with ⟨w, hw, hz1⟩ | ⟨d', hw, hz1, -⟩
    · exact hq0 w hw N1 f1 (hX.fe hg f1)
    · exact absurd hz1 h12
end Read3
