/-! own text: the class reads its desk, on -/
theorem pTm_w {T : Nat → Int} {L A : Nat} : ∀ f p sg n G M w, pTm T L A f p sg n G M = .inl w → p ≤ L → w ≤ L
  | 0, p, sg, n, G, M, w, h, hp => by rw [pTm] at h; simp only [Sum.inl.injEq] at h; omega
  | f + 1, p, sg, n, G, M, w, h, hp => by
    rw [pTm] at h
    have s1 := sk_le (T := T) hp
    cases ht : tmc (tat T L (sk T L p)) A with
    | none => rw [ht] at h; simp only [Sum.inl.injEq] at h; omega
    | some t =>
      rw [ht] at h
      simp only at h
      have s2 := tat_in (tmc_ok ht).2.1
      have s3 := sk_le (T := T) (show sk T L p + 1 ≤ L by omega)
      split at h
      · split at h
        · simp only [Sum.inl.injEq] at h; omega
        · rename_i c1 c2
          have s4 : sk T L (sk T L p + 1) < L := tat_in (T := T) (by omega)
          exact pTm_w f _ _ _ _ _ _ h (by omega)
      · cases h
theorem pTerms_w {T : Nat → Int} {L A p w : Nat} (hp : p ≤ L) (h : pTerms T L A p = .inl w) : w ≤ L := by
  unfold pTerms at h
  have s1 := sk_le (T := T) hp
  split at h
  · have := tat_in (T := T) (L := L) (p := sk T L p) (by omega)
    exact pTm_w _ _ _ _ _ _ _ h (by omega)
  · exact pTm_w _ _ _ _ _ _ _ h (by omega)
theorem pSg_w {T : Nat → Int} {L p w : Nat} {lo hi : Int} (hp : p ≤ L) (h : pSg T L p lo hi = .inl w) : w ≤ L := by
  unfold pSg at h
  cases h1 : pNum T L p lo hi with
  | inl v => rw [h1] at h; simp only [Sum.inl.injEq] at h; have := pNum_w hp h1; omega
  | inr x =>
    obtain ⟨p1, v1⟩ := x
    rw [h1] at h
    simp only at h
    have o1 := pNum_ok hp h1
    have s1 := sk_le (T := T) o1.1
    split at h
    · have := tat_in (T := T) (L := L) (p := sk T L p1) (by omega)
      cases h2 : pNum T L (sk T L p1 + 1) 0 9999 with
      | inl v => rw [h2] at h; simp only [Sum.inl.injEq] at h; have := pNum_w (by omega) h2; omega
      | inr x =>
        obtain ⟨p2, v2⟩ := x
        rw [h2] at h
        simp only at h
        have o2 := pNum_ok (by omega) h2
        have s2 := sk_le (T := T) o2.1
        split at h
        · have := tat_in (T := T) (L := L) (p := sk T L p2) (by omega)
          cases h3 : pNum T L (sk T L p2 + 1) 0 1999 with
          | inl v => rw [h3] at h; simp only [Sum.inl.injEq] at h; have := pNum_w (by omega) h3; omega
          | inr x => obtain ⟨p3, v3⟩ := x; rw [h3] at h; cases h
        · split at h
          · cases h
          · simp only [Sum.inl.injEq] at h; omega
    · simp only [Sum.inl.injEq] at h; omega
theorem pSgs_w {T : Nat → Int} {L : Nat} : ∀ f p m lo hi F E S w, pSgs T L f p m lo hi F E S = .inl w → p ≤ L → w ≤ L
  | 0, p, m, lo, hi, F, E, S, w, h, hp => by rw [pSgs] at h; simp only [Sum.inl.injEq] at h; omega
  | f + 1, p, m, lo, hi, F, E, S, w, h, hp => by
    rw [pSgs] at h
    have s1 := sk_le (T := T) hp
    split at h
    · have := tat_in (T := T) (L := L) (p := sk T L p) (by omega)
      cases h2 : pSg T L (sk T L p + 1) lo hi with
      | inl v => rw [h2] at h; simp only [Sum.inl.injEq] at h; have := pSg_w (by omega) h2; omega
      | inr x =>
        obtain ⟨p1, a, b, c⟩ := x
        rw [h2] at h
        simp only at h
        have o := pSg_ok (by omega) h2
        have s2 := sk_le (T := T) o.1
        split at h
        · exact pSgs_w f _ _ _ _ _ _ _ _ h (by omega)
        · cases h
    · simp only [Sum.inl.injEq] at h; omega
theorem pRule_w {T : Nat → Int} {L p w : Nat} {d : Dk} (hp : p < L) (h : pRule T L d p = .inl w) : w ≤ L := by
  unfold pRule at h
  have s1 := sk_le (T := T) (show p + 1 ≤ L by omega)
  split at h
  · have := tat_in (T := T) (L := L) (p := sk T L (p + 1)) (by omega)
    cases h1 : pTerms T L (dA d) (sk T L (p + 1) + 1) with
    | inl v => rw [h1] at h; simp only [Sum.inl.injEq] at h; have := pTerms_w (by omega) h1; omega
    | inr x =>
      obtain ⟨p1, n, G, M⟩ := x
      rw [h1] at h
      simp only at h
      obtain ⟨o1, o2, o3, o4, o5⟩ := pTerms_ok (by omega) h1
      split at h
      · cases h2 : pSgs T L 6 p1 0 0 0 (fun _ => 0) (fun _ => 0) (fun _ => 0) with
        | inl v => rw [h2] at h; simp only [Sum.inl.injEq] at h; have := pSgs_w _ _ _ _ _ _ _ _ _ h2 (by omega); omega
        | inr x => obtain ⟨p2, m, F, E, S⟩ := x; rw [h2] at h; cases h
      · simp only [Sum.inl.injEq] at h; omega
  · simp only [Sum.inl.injEq] at h; omega
theorem pPaid_w {T : Nat → Int} {L p w : Nat} {d : Dk} (hp : p < L) (h : pPaid T L d p = .inl w) : w ≤ L := by
  unfold pPaid at h
  have s1 := sk_le (T := T) (show p + 1 ≤ L by omega)
  split at h
  · have := tat_in (T := T) (L := L) (p := sk T L (p + 1)) (by omega)
    cases h1 : pTerms T L (dA d) (sk T L (p + 1) + 1) with
    | inl v => rw [h1] at h; simp only [Sum.inl.injEq] at h; have := pTerms_w (by omega) h1; omega
    | inr x =>
      obtain ⟨p1, n, G, M⟩ := x
      rw [h1] at h
      simp only at h
      obtain ⟨o1, o2, o3, o4, o5⟩ := pTerms_ok (by omega) h1
      have s3 := sk_le (T := T) o1
      split at h
      · cases h
      · simp only [Sum.inl.injEq] at h; omega
  · simp only [Sum.inl.injEq] at h; omega
theorem RowT.of' {N N' : Nm} {r a n : Nat} {G : Nat → Int} {M : Nat → Nat} (h : RowT N r a n G M) (f : ∀ k i j, 21 ≤ k → k ≤ 25 → N' k i j = N k i j) : RowT N' r a n G M := ⟨by rw [f 21 _ _ (by omega) (by omega)]; exact h.1, fun j hj => by rw [f 23 _ _ (by omega) (by omega), f 25 _ _ (by omega) (by omega)]; exact h.2 j hj⟩
section Read4
variable {K : Kx} {N : Nm} {g : Ge} {T : Nat → Int} {L p r : Nat} {d : Dk}
/-- what reading a tape comes to -/
def RdE (N' : Nm) (r : Nat) (P : Nat ⊕ Dk) (z : Int) : Prop := (∃ w : Nat, P = .inl w ∧ z = (w : Int)) ∨ ∃ d', P = .inr d' ∧ z = -1 ∧ RuI N' r d' ∧ WD d'
theorem c_read {Pq : Int → Nm → Ge → Prop} (hT : Tp N T L) (hq : ∀ z N', rI z → FrE r N N' → RdE N' r (pDesk T L 8 0 dk0 false) z → Pq z N' g) : Ck K YX4_read hX4_read [vr 1 0, vr 20 r] N g (qI Pq) := by
  generalize hP : pDesk T L 8 0 dk0 false = P at hq
  have t4 := hT.2.1
  refine Ck.intro 3 (by decide) rfl ?_
  show AW _ _ _ _ _ [some (vr 1 0), some (vr 20 r), none, none, none] _ _ _
  have loop : ∀ (f u : Nat) (c : Int) (d : Dk) (b : Bool) (N' : Nm), c + f = 8 → c = (dA d : Int) + (if b then 1 else 0) → WP d → FrE r N N' → Rd N' T L u → RuQ N' r d → ClN N' r (dA d) → N' 1 0 4 = (if b then 1 else 0) → pDesk T L f u d b = P → AW K YX4_read hX4_read (qI Pq) 21 [some (vr 1 0), some (vr 20 r), some (vi c), none, none] [] N' g := by
    intro f
    induction f with
    | zero =>
      intro u c d b N' hc hcd hW
      exfalso
      have := hW.1
      split at hcd <;> omega
    | succ f ih =>
      intro u c d b N' hc hcd hW hF hR hQ hC h4 hp
      have hA := hW.1
      have hc7 : 0 ≤ c ∧ c ≤ 7 := by split at hcd <;> omega
      rw [pDesk] at hp
      have no : ∀ (w : Nat) (s : Int) (N2 : Nm), P = .inl w → N2 1 0 3 = (w : Int) → w ≤ 400 → FrE r N N2 → AW K YX4_read hX4_read (qI Pq) 111 [some (vr 1 0), some (vr 20 r), some (vi c), some (vi s), some (vi 0)] [] N2 g := by
        intro w s N2 k1 k2 k3 k4
        refine ld_i4 iX4_read_111 ?_
        refine r_ifeq iX4_read_113 (by omega) (fun h113 => ?_) (fun h113 => ?_)
        · refine ld_a0 iX4_read_125 ?_
          refine gf_X4_wrong kFX4_22 iX4_read_126 ?_
          rw [k2]
          refine t_int rfl iX4_read_129 ?_
          exact hq _ N2 (by omega) k4 (Or.inl ⟨w, k1, rfl⟩)
        · exfalso; omega
      have ok : ∀ (p1 : Nat) (s : Int) (d1 : Dk) (b1 : Bool) (N2 : Nm), c + 1 = (dA d1 : Int) + (if b1 then 1 else 0) → WP d1 → FrE r N N2 → Rd N2 T L p1 → RuQ N2 r d1 → ClN N2 r (dA d1) → N2 1 0 4 = (if b1 then 1 else 0) → (if tat T L (sk T L p1) = 59 then pDesk T L f (sk T L p1 + 1) d1 b1 else .inl (sk T L p1)) = P → AW K YX4_read hX4_read (qI Pq) 111 [some (vr 1 0), some (vr 20 r), some (vi c), some (vi s), some (vi 1)] [] N2 g := by
        intro p1 s d1 b1 N2 k1 k2 k3 k4 k5 k6 k7 k8
        refine ld_i4 iX4_read_111 ?_
        refine r_ifeq iX4_read_113 (by omega) (fun h113 => ?_) (fun h113 => ?_)
        · exfalso; omega
        · refine ld_a0 iX4_read_116 ?_
          refine r_bipush (by decide) iX4_read_117 ?_
          refine xX4_take kMX4_56 iX4_read_119 (by decide) (Nat.le_of_ble_eq_true rfl) rfl rfl ?_
          refine c_take (by omega) k4 (fun z3 N3 hz3 f3 y1 y0 => ?_)
          refine r_ifne iX4_read_122 (by omega) (fun h122 => ?_) (fun h122 => ?_)
          · obtain ⟨n1, l1, e3⟩ := y1 (by omega)
            rw [if_pos n1] at k8
            refine inc_2 (by decide) rfl iX4_read_130 ?_
            refine r_goto iX4_read_133 ?_
            refine fg_4 (fg_3 ?_)
            exact ih _ _ d1 b1 N3 (by omega) k1 k2 (k3.tr (f3.d r).e) e3 (k5.c (fun k i j q1 q2 => f3 k i j (by omega))) (k6.c (fun k i j q1 q2 => f3 k i j (by omega))) (by rw [f3 1 0 4 (by omega)]; exact k7) k8
          · obtain ⟨n1, w3⟩ := y0 h122
            have hs := sk_le (T := T) k4.2.2.2
            refine ld_a0 iX4_read_125 ?_
            refine gf_X4_wrong kFX4_22 iX4_read_126 ?_
            rw [w3]
            refine t_int rfl iX4_read_129 ?_
            rw [if_neg n1] at k8
            exact hq _ N3 (by omega) (k3.tr (f3.d r).e) (Or.inl ⟨_, k8.symm, rfl⟩)
      have rule : ∀ (N1 : Nm), FrC N' N1 → Rd N1 T L (sk T L u) → ¬ tat T L (sk T L u) = 110 → ¬ (tat T L (sk T L u) = 107 ∧ b = false) → AW K YX4_read hX4_read (qI Pq) 71 [some (vr 1 0), some (vr 20 r), some (vi c), some (vi (tat T L (sk T L u))), none] [] N1 g := by
        intro N1 f1 e1 m1 m2
        rw [if_neg m1, if_neg m2] at hp
        have hb := tat_r e1.1 (sk T L u)
        have hu := e1.2.2.2
        have hQ1 := hQ.c (N' := N1) (fun k i j q1 q2 => f1 k i j (by omega))
        have bad : ¬ (tat T L (sk T L u) = 97 + (dA d : Int) ∧ dA d < 6) → AW K YX4_read hX4_read (qI Pq) 101 [some (vr 1 0), some (vr 20 r), some (vi c), some (vi (tat T L (sk T L u))), none] [] N1 g := by
          intro m3
          rw [if_neg m3] at hp
          refine ld_a0 iX4_read_101 ?_
          refine ld_a0 iX4_read_102 ?_
          refine gf_X4_place kFX4_19 iX4_read_103 ?_
          rw [e1.2.1]
          refine xX4_fail kMX4_52 iX4_read_106 (by decide) (Nat.le_of_ble_eq_true rfl) rfl rfl ?_
          refine c_fail ?_
          refine sv_i4 (by decide) rfl iX4_read_109 ?_
          exact no _ _ _ hp.symm (upN_eq _ _ _ _ _) (by omega) (hF.tr ((f1.up (by omega)).d r).e)
        refine ld_i3 iX4_read_71 ?_
        refine r_bipush (by decide) iX4_read_72 ?_
        refine ld_a1 iX4_read_74 ?_
        refine gf_X5_accounts kFX4_46 iX4_read_75 ?_
        rw [hQ1.1]
        refine r_iadd iX4_read_78 ?_
        refine r_icmpne iX4_read_79 (by omega) (by omega) (fun h79 => ?_) (fun h79 => ?_)
        · exact bad (fun z => by omega)
        · refine ld_a1 iX4_read_82 ?_
          refine gf_X5_accounts kFX4_46 iX4_read_83 ?_
          rw [hQ1.1]
          refine r_bipush (by decide) iX4_read_86 ?_
          refine r_icmpge iX4_read_88 (by omega) (by omega) (fun h88 => ?_) (fun h88 => ?_)
          · exact bad (fun z => by omega)
          · have hin := tat_in (T := T) (L := L) (p := sk T L u) (by omega)
            rw [if_pos ⟨by omega, by omega⟩] at hp
            refine ld_a0 iX4_read_91 ?_
            refine ld_a1 iX4_read_92 ?_
            refine xX4_readRule kMX4_49 iX4_read_93 (by decide) (Nat.le_of_ble_eq_true rfl) rfl rfl ?_
            refine c_readRule e1 hin hQ1 hW (by omega) (hC.c (fun k i j q1 q2 => f1 k i j (by omega))) (fun z2 N2 hz2 f2 a1 a0 => ?_)
            refine sv_i4 (by decide) rfl iX4_read_96 ?_
            refine r_goto iX4_read_98 ?_
            rcases hz2 with y | y
            · obtain ⟨w, hw, w3⟩ := a0 y
              have hwl := pRule_w hin hw
              rw [hw] at hp
              subst y
              exact no w _ N2 hp.symm w3 (by omega) (hF.tr (((f1.d r).tr f2).e))
            · obtain ⟨p2, d2, hw, e2, q2, c2⟩ := a1 y
              obtain ⟨o1, o2, o3, o4⟩ := pRule_ok hin (by omega) hW hw
              rw [hw] at hp
              subst y
              exact ok p2 _ d2 b N2 (by rw [o4]; omega) o3 (hF.tr (((f1.d r).tr f2).e)) e2 q2 c2 (by rw [f2 1 0 4 (by omega) (by omega) (by omega) (by omega), f1 1 0 4 (by omega)]; exact h4) hp
      refine ld_i2 iX4_read_21 ?_
      refine r_bipush (by decide) iX4_read_22 ?_
      refine r_icmpge iX4_read_24 (by omega) (by omega) (fun h24 => ?_) (fun h24 => ?_)
      · exfalso; omega
      · refine ld_a0 iX4_read_27 ?_
        refine xX4_look kMX4_34 iX4_read_28 (by decide) (Nat.le_of_ble_eq_true rfl) rfl rfl ?_
        refine c_look hR (fun N1 f1 e1 => ?_)
        have hb := tat_r e1.1 (sk T L u)
        have hu := e1.2.2.2
        have hQ1 := hQ.c (N' := N1) (fun k i j q1 q2 => f1 k i j (by omega))
        refine sv_i3 (by decide) rfl iX4_read_31 ?_
        refine ld_i3 iX4_read_32 ?_
        refine r_bipush (by decide) iX4_read_33 ?_
        refine r_icmpne iX4_read_35 (by omega) (by omega) (fun h35 => ?_) (fun h35 => ?_)
        · refine ld_i3 iX4_read_48 ?_
          refine r_bipush (by decide) iX4_read_49 ?_
          refine r_icmpne iX4_read_51 (by omega) (by omega) (fun h51 => ?_) (fun h51 => ?_)
          · first
              | exact rule N1 f1 e1 h35 (fun z => hbt z.2)
              | exact rule N1 f1 e1 h35 (fun z => h51 z.1)
          · refine ld_a0 iX4_read_54 ?_
            refine gf_X4_benefitTold kFX4_25 iX4_read_55 ?_
            rw [f1 1 0 4 (by omega), h4]
            refine r_ifne iX4_read_58 (by split <;> omega) (fun h58 => ?_) (fun h58 => ?_)
            · have hbt : ¬ b = false := by
                intro z; subst z
                exact absurd h58 (by decide)
              first
                | exact rule N1 f1 e1 h35 (fun z => hbt z.2)
                | exact rule N1 f1 e1 h35 (fun z => h51 z.1)
            · have hbf : b = false := by
                cases b
                · rfl
                · exact absurd h58 (by decide)
              have hin := tat_in (T := T) (L := L) (p := sk T L u) (by omega)
              rw [if_neg h35, if_pos ⟨by omega, hbf⟩] at hp
              subst hbf
              refine ld_a0 iX4_read_61 ?_
              refine ld_a1 iX4_read_62 ?_
              refine xX4_readBenefit kMX4_42 iX4_read_63 (by decide) (Nat.le_of_ble_eq_true rfl) rfl rfl ?_
              refine c_readBenefit (r := r) e1 hin (fun z2 N2 hz2 f2 a1 a0 => ?_)
              refine sv_i4 (by decide) rfl iX4_read_66 ?_
              refine r_goto iX4_read_68 ?_
              rcases hz2 with y | y
              · obtain ⟨w, hw, w3⟩ := a0 y
                have hwl := pNum_w (by omega) hw
                rw [hw] at hp
                subst y
                exact no w _ N2 hp.symm w3 (by omega) (hF.tr ((f1.d r).e.tr f2))
              · obtain ⟨p2, v, hw, e2, w4, w1, wf⟩ := a1 y
                have ov := pNum_ok (by omega) hw
                rw [hw] at hp
                subst y
                refine ok p2 _ (setB d v) true N2 ?_ (hW.setB ov.2) (hF.tr ((f1.d r).e.tr f2)) e2 ⟨?_, w1, fun a ha => ?_⟩ (fun a z1 z2 => ?_) w4 hp
                · show c + 1 = (dA d : Int) + 1
                  have : c = (dA d : Int) + 0 := hcd
                  omega
                · rw [wf 20 r 0 (by omega) (by omega)]; exact hQ1.1
                · obtain ⟨b1, b2, b3, b4⟩ := hQ1.2.2 a ha
                  refine ⟨b1.of' (fun k i j y1 y2 => wf k i j (by omega) (by omega)), b2.of (fun k i j y1 y2 => wf k i j (by omega) (by omega)), by rw [wf 26 _ _ (by omega) (by omega)]; exact b3, fun q hq => by rw [wf 35 _ _ (by omega) (by omega), b4 q hq]; exact (bas_cg (d := d) (d' := setB d v) (fun _ => rfl) (fun _ => rfl) (fun _ => rfl) q).symm⟩
                · have hc1 := hC a z1 z2
                  exact ⟨by rw [wf 21 _ _ (by omega) (by omega), f1 21 _ _ (by omega)]; exact hc1.1, fun z => by rw [wf 27 _ _ (by omega) (by omega), f1 27 _ _ (by omega)]; exact hc1.2 z⟩
        · have hin := tat_in (T := T) (L := L) (p := sk T L u) (by omega)
          rw [if_pos h35] at hp
          refine ld_a0 iX4_read_38 ?_
          refine ld_a1 iX4_read_39 ?_
          refine xX4_readPaid kMX4_38 iX4_read_40 (by decide) (Nat.le_of_ble_eq_true rfl) rfl rfl ?_
          refine c_readPaid e1 hin hQ1 hW (hC.c (fun k i j q1 q2 => f1 k i j (by omega))) (fun N2 f2 a1 => ?_)
          refine ld_a0 iX4_read_43 ?_
          refine gf_X4_wrong kFX4_22 iX4_read_44 ?_
          refine t_int rfl iX4_read_47 ?_
          have hFF := hF.tr ((f1.d r).tr f2).e
          rcases a1 with ⟨d2, hw, w3, q2⟩ | ⟨w, hw, w3⟩
          · rw [hw] at hp
            refine hq _ N2 (by omega) hFF (Or.inr ⟨d2, hp.symm, w3, q2, (pPaid_ok hin hW hw).1⟩)
          · have hwl := pPaid_w hin hw
            rw [hw] at hp
            exact hq _ N2 (by omega) hFF (Or.inl ⟨w, hp.symm, w3⟩)
  refine ld_a1 iX4_read_0 ?_
  refine xX5_clear kMX4_29 iX4_read_1 (by decide) (Nat.le_of_ble_eq_true rfl) rfl rfl ?_
  refine c_clear (fun N1 f1 k1 q1 c1 => ?_)
  refine ld_a0 iX4_read_4 ?_
  refine r_iconst iX4_read_5 ?_
  refine pf_X4_place kFX4_19 iX4_read_6 ?_
  refine ld_a0 iX4_read_9 ?_
  refine r_iconst iX4_read_10 ?_
  refine pf_X4_wrong kFX4_22 iX4_read_11 ?_
  refine ld_a0 iX4_read_14 ?_
  refine r_iconst iX4_read_15 ?_
  refine pf_X4_benefitTold (by omega) kFX4_25 iX4_read_16 ?_
  refine r_iconst iX4_read_19 ?_
  refine sv_i2 (by decide) rfl iX4_read_20 ?_
  refine loop 8 0 _ dk0 false _ (by omega) (by rfl) WP0 ((f1.e).tr (fun k i j y1 y2 y3 y4 => ?_)) ⟨(hT.of (k1 1 0 1 (by omega)) (fun j => k1 2 0 j (by omega))).of ?_ (fun j => ?_), ?_, ?_, by omega⟩ (q1.c (fun k i j y1 y2 => ?_)) (c1.c (fun k i j y1 y2 => ?_)) (upN_eq _ _ _ _ _) hP
  · rw [show ∀ A v, upN A 1 0 4 v k i j = A k i j from fun A v => if_neg (fun y => by omega), show ∀ A v, upN A 1 0 3 v k i j = A k i j from fun A v => if_neg (fun y => by omega), show ∀ A v, upN A 1 0 2 v k i j = A k i j from fun A v => if_neg (fun y => by omega)]
  · rw [upN_j (by decide), upN_j (by decide), upN_j (by decide)]
  · rw [upN_k (by decide), upN_k (by decide), upN_k (by decide)]
  · rw [upN_j (by decide), upN_j (by decide), upN_eq]; rfl
  · rw [upN_j (by decide), upN_eq]
  · rw [upN_k (by omega), upN_k (by omega), upN_k (by omega)]
  · rw [upN_k (by omega), upN_k (by omega), upN_k (by omega)]
end Read4
