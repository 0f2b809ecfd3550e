/-! own text: the reference's loops over a laid line -/
/-- traps, as the reference goes through them: at w, trapped until U, a of them, the longest l -/
def TrT (F : Nat → Int) (w U : Nat) (a l : Int) : Prop :=
  (U ≤ w ∧ a = ct (trB F) w ∧ l = lr (trB F) w ∧ (trB F (w - 1) = false ∨ (w < 10000 → mxF F (w - 1) ≤ F w))) ∨ (w < U ∧ U ≤ 10000 ∧ a = ct (trB F) U ∧ l = lr (trB F) U ∧ (U < 10000 → mxF F (U - 1) ≤ F U) ∧ (U : Int) - w ≤ l)
theorem trB_no {F : Nat → Int} {w : Nat} (h1 : 1 ≤ w) (h : mxF F (w - 1) ≤ F w) : trB F w = false := by
  obtain ⟨u, rfl⟩ : ∃ u, w = u + 1 := ⟨w - 1, by omega⟩
  refine decide_eq_false ?_
  rw [mxF]
  rw [show u + 1 - 1 = u by omega] at h
  omega
theorem TrT.on {F : Nat → Int} {w U : Nat} {a l : Int} (hw : w < U) (hU : U ≤ 10000) (ha : a = ct (trB F) U) (hl : l = lr (trB F) U) (hm : U < 10000 → mxF F (U - 1) ≤ F U) (hd : (U : Int) - w ≤ l) : TrT F (w + 1) U a l := by
  rcases Nat.lt_or_ge (w + 1) U with q | q
  · exact Or.inr ⟨q, hU, ha, hl, hm, by omega⟩
  · have e : U = w + 1 := by omega
    subst e
    exact Or.inl ⟨Nat.le_refl _, ha, hl, Or.inr hm⟩
theorem TrT.flat {F : Nat → Int} {w U : Nat} {a l : Int} (h : TrT F w U a l) (h1 : 1 ≤ w) (hw : w < 10000) (hc : F (w - 1) ≤ F w) : TrT F (w + 1) U a l := by
  rcases h with ⟨b1, b2, b3, b4⟩ | ⟨b1, b2, b3, b4, b5, b6⟩
  · have hn : trB F w = false := by
      refine trB_no h1 ?_
      rcases b4 with q | q
      · have := of_decide_eq_false q
        omega
      · exact q hw
    refine Or.inl ⟨by omega, ?_, ?_, Or.inl (by rw [show w + 1 - 1 = w by omega]; exact hn)⟩
    · rw [ct, hn, b2]; simp
    · rw [(rn_none (trB F) w (w + 1) (by omega) (fun u u1 u2 => by rw [show u = w by omega]; exact hn)).2, b3]
  · exact TrT.on b1 b2 b3 b4 b5 b6
theorem TrT.cliff {F : Nat → Int} {w U e U' : Nat} {a l a' l' : Int} (h : TrT F w U a l) (h1 : 1 ≤ w) (hw : w < 10000) (hc : F w < F (w - 1)) (he : w < e ∧ e ≤ 10000) (hin : ∀ u, w ≤ u → u < e → F u < F (w - 1)) (hb : e < 10000 → F (w - 1) ≤ F e)
    (hU : (U' : Int) = max (U : Int) e) (ha : a' = a + max 0 ((e : Int) - max (w : Int) U)) (hl : l' = max l ((e : Int) - w)) : TrT F (w + 1) U' a' l' := by
  rcases h with ⟨b1, b2, b3, b4⟩ | ⟨b1, b2, b3, b4, b5, b6⟩
  · have hm : F (w - 1) = mxF F (w - 1) := by
      rcases b4 with q | q
      · have := of_decide_eq_false q
        have := mxF_ge F (w - 1) (w - 1) (Nat.le_refl _)
        omega
      · have := q hw
        have := mxF_ge F (w - 1) (w - 1) (Nat.le_refl _)
        omega
    have hq0 : trB F (w - 1) = false := decide_eq_false (by omega)
    have hall : ∀ u, w ≤ u → u < e → trB F u = true := fun u u1 u2 => decide_eq_true (by
      have := hin u u1 u2
      have := mxF_ge F u (w - 1) (by omega)
      omega)
    have hrn : rn (trB F) w = 0 := by
      obtain ⟨v, rfl⟩ : ∃ v, w = v + 1 := ⟨w - 1, by omega⟩
      rw [show v + 1 - 1 = v by omega] at hq0
      rw [rn, hq0]; rfl
    have hct := ct_all (trB F) w e (by omega) hall
    have hlr := (rn_all (trB F) w e (by omega) hall).2
    rw [hrn] at hlr
    have eU : U' = e := by omega
    subst eU
    have hmx : mxF F (U' - 1) ≤ F (w - 1) := by
      obtain ⟨u, u1, u2⟩ := mxF_at F (U' - 1)
      rw [u2]
      rcases Nat.lt_or_ge u w with q | q
      · have := mxF_ge F (w - 1) u (by omega); omega
      · have := hin u q (by omega); omega
    have e1 : a' = ct (trB F) U' := by rw [hct]; omega
    have e2 : l' = lr (trB F) U' := by rw [hlr]; omega
    exact TrT.on he.1 he.2 e1 e2 (fun q => by have := hb q; omega) (by omega)
  · have heU : e ≤ U := by
      rcases Nat.lt_or_ge U 10000 with q | q
      · rcases Nat.lt_or_ge U e with z | z
        · have y1 := hin U (by omega) z
          have y2 := b5 q
          have y3 := mxF_ge F (U - 1) (w - 1) (by omega)
          omega
        · exact z
      · omega
    have e1 : U' = U := by omega
    have e2 : a' = a := by omega
    have e3 : l' = l := by omega
    rw [e1, e2, e3]
    exact TrT.on b1 b2 b3 b4 b5 b6
section MLine8
variable {K : Kx} {N : Nm} {g : Ge} {F : Nat → Int} {P : Nat} {s : Nat → Nat}
theorem c_pieceTo {p : Nat} {Pq : Int → Nm → Ge → Prop} (hP : Lp N P s) (hs : Ps F P s) (hp : p < P) (hq : Pq ((s (p + 1) : Int) - 1) N g) : Ck K YX10_pieceTo hX10_pieceTo [vr 40 0, vi p] N g (qI Pq) := by
  have hPl := hs.P_le
  refine Ck.intro 0 (by decide) rfl ?_
  show AW _ _ _ _ _ [some (vr 40 0), some (vi p)] _ _ _
  refine ld_i1 iX10_pieceTo_0 ?_
  refine r_iconst iX10_pieceTo_1 ?_
  refine r_iadd iX10_pieceTo_2 ?_
  refine ld_a0 iX10_pieceTo_3 ?_
  refine gf_X10_pieces kFX10_222 iX10_pieceTo_4 ?_
  rw [hP.1]
  refine r_icmpge iX10_pieceTo_7 (by omega) (by omega) (fun h7 => ?_) (fun h7 => ?_)
  · refine r_sipush (by decide) iX10_pieceTo_23 ?_
    refine t_int rfl iX10_pieceTo_26 ?_
    first
      | exact hq
      | (rw [show p + 1 = P by omega, hs.2.2.1] at hq; exact hq)
  · refine ld_a0 iX10_pieceTo_10 ?_
    refine gf_X10_pieceFrom kFX10_66 iX10_pieceTo_11 ?_
    refine ld_i1 iX10_pieceTo_14 ?_
    refine r_iconst iX10_pieceTo_15 ?_
    refine r_iadd iX10_pieceTo_16 ?_
    refine al_58 (n := (p + 1)) (by omega) (by omega) iX10_pieceTo_17 ?_
    rw [hP.2 (p + 1) (by omega)]
    refine r_iconst iX10_pieceTo_18 ?_
    refine r_isub iX10_pieceTo_19 ?_
    refine r_goto iX10_pieceTo_20 ?_
    refine t_int rfl iX10_pieceTo_26 ?_
    first
      | exact hq
      | (rw [show p + 1 = P by omega, hs.2.2.1] at hq; exact hq)
theorem c_cliffsOf {Pq : Int → Nm → Ge → Prop} (hL : La N F) (hq : Pq (ct (clB F) 10000) N g) : Ck K YX10_cliffsOf hX10_cliffsOf [vr 40 0] N g (qI Pq) := by
  refine Ck.intro 2 (by decide) rfl ?_
  show AW _ _ _ _ _ [some (vr 40 0), none, none] _ _ _
  have loop : ∀ (n w : Nat) (a c : Int), 10000 - w = n → 1 ≤ w → w ≤ 10000 → c = w → a = ct (clB F) w → AW K YX10_cliffsOf hX10_cliffsOf (qI Pq) 4 [some (vr 40 0), some (vi a), some (vi c)] [] N g := by
    intro n
    induction n using Nat.strongRecOn with
    | _ n ih =>
      intro w a c e h0 h1 hc ha
      subst hc
      refine ld_i2 iX10_cliffsOf_4 ?_
      refine r_sipush (by decide) iX10_cliffsOf_5 ?_
      refine r_icmpge iX10_cliffsOf_8 (by omega) (by omega) (fun h8 => ?_) (fun h8 => ?_)
      · refine ld_i1 iX10_cliffsOf_43 ?_
        refine t_int rfl iX10_cliffsOf_44 ?_
        have e : w = 10000 := by omega
        rw [ha, e]; exact hq
      · have b1 := hL w (by omega)
        have b2 := hL (w - 1) (by omega)
        refine ld_i1 iX10_cliffsOf_11 ?_
        refine ld_a0 iX10_cliffsOf_12 ?_
        refine gf_X10_line kFX10_63 iX10_cliffsOf_13 ?_
        refine ld_i2 iX10_cliffsOf_16 ?_
        refine al_57 rfl (by omega) iX10_cliffsOf_17 ?_
        rw [b1.1]
        refine ld_a0 iX10_cliffsOf_18 ?_
        refine gf_X10_line kFX10_63 iX10_cliffsOf_19 ?_
        refine ld_i2 iX10_cliffsOf_22 ?_
        refine r_iconst iX10_cliffsOf_23 ?_
        refine r_isub iX10_cliffsOf_24 ?_
        refine al_57 (n := (w - 1)) (by omega) (by omega) iX10_cliffsOf_25 ?_
        rw [b2.1]
        refine r_lcge iX10_cliffsOf_26 iX10_cliffsOf_27 (by omega) (by omega) (fun h26 => ?_) (fun h26 => ?_)
        · refine r_iconst iX10_cliffsOf_34 ?_
          refine r_iadd iX10_cliffsOf_35 ?_
          refine sv_i1 (by decide) rfl iX10_cliffsOf_36 ?_
          refine inc_2 (by decide) rfl iX10_cliffsOf_37 ?_
          refine r_goto iX10_cliffsOf_40 ?_
          first
            | exact ih (10000 - (w + 1)) (by omega) (w + 1) _ _ rfl (by omega) (by omega) (by omega) (by rw [ct, show clB F w = true from decide_eq_true ⟨by omega, by omega⟩, ha]; simp)
            | exact ih (10000 - (w + 1)) (by omega) (w + 1) _ _ rfl (by omega) (by omega) (by omega) (by rw [ct, show clB F w = false from decide_eq_false (fun q => by omega), ha]; simp)
        · refine r_iconst iX10_cliffsOf_30 ?_
          refine r_goto iX10_cliffsOf_31 ?_
          refine r_iadd iX10_cliffsOf_35 ?_
          refine sv_i1 (by decide) rfl iX10_cliffsOf_36 ?_
          refine inc_2 (by decide) rfl iX10_cliffsOf_37 ?_
          refine r_goto iX10_cliffsOf_40 ?_
          first
            | exact ih (10000 - (w + 1)) (by omega) (w + 1) _ _ rfl (by omega) (by omega) (by omega) (by rw [ct, show clB F w = true from decide_eq_true ⟨by omega, by omega⟩, ha]; simp)
            | exact ih (10000 - (w + 1)) (by omega) (w + 1) _ _ rfl (by omega) (by omega) (by omega) (by rw [ct, show clB F w = false from decide_eq_false (fun q => by omega), ha]; simp)
  refine r_iconst iX10_cliffsOf_0 ?_
  refine sv_i1 (by decide) rfl iX10_cliffsOf_1 ?_
  refine r_iconst iX10_cliffsOf_2 ?_
  refine sv_i2 (by decide) rfl iX10_cliffsOf_3 ?_
  exact loop 9999 1 _ _ (by omega) (by omega) (by omega) (by omega) (by rw [ct, ct, show clB F 0 = false from decide_eq_false (fun q => by omega)]; rfl)
theorem c_mBackFrom {c : Nat} {Pq : Int → Nm → Ge → Prop} (hL : La N F) (hc : 0 < c ∧ c < 10000) (hcl : F c < F (c - 1)) (hq : ∀ r, Fst (fun w => F (c - 1) ≤ F w) c 10000 r → Pq r N g) : Ck K YX10_backFrom hX10_backFrom [vr 40 0, vi c] N g (qI Pq) := by
  have b2 := hL (c - 1) (by omega)
  refine Ck.intro 1 (by decide) rfl ?_
  show AW _ _ _ _ _ [some (vr 40 0), some (vi c), none] _ _ _
  have tl : ∀ (w : Nat) (x : Int), x = w → c < w → w ≤ 10000 → (∀ u, c ≤ u → u < w → ¬ F (c - 1) ≤ F u) → (w < 10000 → F (c - 1) ≤ F w) → AW K YX10_backFrom hX10_backFrom (qI Pq) 35 [some (vr 40 0), some (vi c), some (vi x)] [] N g := by
    intro w x hx h1 h2 h3 h4
    subst hx
    refine ld_i2 iX10_backFrom_35 ?_
    refine r_sipush (by decide) iX10_backFrom_36 ?_
    refine r_icmpge iX10_backFrom_39 (by omega) (by omega) (fun h39 => ?_) (fun h39 => ?_)
    · refine r_iconst iX10_backFrom_46 ?_
      refine t_int rfl iX10_backFrom_47 ?_
      first
        | exact hq _ (Or.inl ⟨rfl, fun u u1 u2 => h3 u u1 (by omega)⟩)
        | exact hq _ (Or.inr ⟨w, rfl, by omega, by omega, h4 (by omega), h3⟩)
    · refine ld_i2 iX10_backFrom_42 ?_
      refine r_goto iX10_backFrom_43 ?_
      refine t_int rfl iX10_backFrom_47 ?_
      first
        | exact hq _ (Or.inl ⟨rfl, fun u u1 u2 => h3 u u1 (by omega)⟩)
        | exact hq _ (Or.inr ⟨w, rfl, by omega, by omega, h4 (by omega), h3⟩)
  have loop : ∀ (n w : Nat) (x : Int), 10000 - w = n → x = w → c < w → w ≤ 10000 → (∀ u, c ≤ u → u < w → ¬ F (c - 1) ≤ F u) → AW K YX10_backFrom hX10_backFrom (qI Pq) 4 [some (vr 40 0), some (vi c), some (vi x)] [] N g := by
    intro n
    induction n using Nat.strongRecOn with
    | _ n ih =>
      intro w x e hx h1 h2 h3
      subst hx
      refine ld_i2 iX10_backFrom_4 ?_
      refine r_sipush (by decide) iX10_backFrom_5 ?_
      refine r_icmpge iX10_backFrom_8 (by omega) (by omega) (fun h8 => ?_) (fun h8 => ?_)
      · exact tl w _ rfl h1 h2 h3 (fun q => by omega)
      · have b1 := hL w (by omega)
        refine ld_a0 iX10_backFrom_11 ?_
        refine gf_X10_line kFX10_63 iX10_backFrom_12 ?_
        refine ld_i2 iX10_backFrom_15 ?_
        refine al_57 rfl (by omega) iX10_backFrom_16 ?_
        rw [b1.1]
        refine ld_a0 iX10_backFrom_17 ?_
        refine gf_X10_line kFX10_63 iX10_backFrom_18 ?_
        refine ld_i1 iX10_backFrom_21 ?_
        refine r_iconst iX10_backFrom_22 ?_
        refine r_isub iX10_backFrom_23 ?_
        refine al_57 (n := (c - 1)) (by omega) (by omega) iX10_backFrom_24 ?_
        rw [b2.1]
        refine r_lcge iX10_backFrom_25 iX10_backFrom_26 (by omega) (by omega) (fun h25 => ?_) (fun h25 => ?_)
        · exact tl w _ rfl h1 h2 h3 (fun q => by omega)
        · refine inc_2 (by decide) rfl iX10_backFrom_29 ?_
          refine r_goto iX10_backFrom_32 ?_
          refine ih (10000 - (w + 1)) (by omega) (w + 1) _ rfl (by omega) (by omega) (by omega) (fun u u1 u2 => ?_)
          by_cases eu : u = w
          · rw [eu]; omega
          · exact h3 u u1 (by omega)
  refine ld_i1 iX10_backFrom_0 ?_
  refine r_iconst iX10_backFrom_1 ?_
  refine r_iadd iX10_backFrom_2 ?_
  refine sv_i2 (by decide) rfl iX10_backFrom_3 ?_
  exact loop (10000 - (c + 1)) (c + 1) _ rfl (by omega) (by omega) (by omega) (fun u u1 u2 => by rw [show u = c by omega]; omega)
theorem c_trapOf {c : Nat} {Pq : Int → Nm → Ge → Prop} (hL : La N F) (hc : 0 < c ∧ c < 10000) (hcl : F c < F (c - 1)) (hq : ∀ r, Fst (fun w => F (c - 1) ≤ F w) c 10000 r → Pq ((if r = -1 then 10000 else r) - c) N g) : Ck K YX10_trapOf hX10_trapOf [vr 40 0, vi c] N g (qI Pq) := by
  refine Ck.intro 1 (by decide) rfl ?_
  show AW _ _ _ _ _ [some (vr 40 0), some (vi c), none] _ _ _
  refine ld_a0 iX10_trapOf_0 ?_
  refine ld_i1 iX10_trapOf_1 ?_
  refine xX10_backFrom kMX10_259 iX10_trapOf_2 (by decide) (Nat.le_of_ble_eq_true rfl) rfl rfl ?_
  refine c_mBackFrom hL hc hcl (fun r hr => ?_)
  have hrr : rI r := by rcases hr with ⟨q, -⟩ | ⟨w, q, q1, q2, -⟩ <;> omega
  have hq := hq r hr
  refine sv_i2 (by decide) rfl iX10_trapOf_5 ?_
  refine ld_i2 iX10_trapOf_6 ?_
  refine r_iconst iX10_trapOf_7 ?_
  refine r_icmpne iX10_trapOf_8 (by omega) (by omega) (fun h8 => ?_) (fun h8 => ?_)
  · refine ld_i2 iX10_trapOf_17 ?_
    refine ld_i1 iX10_trapOf_18 ?_
    refine r_isub iX10_trapOf_19 ?_
    refine t_int rfl iX10_trapOf_20 ?_
    first
      | (rw [if_pos (by omega)] at hq; exact hq)
      | (rw [if_neg (by omega)] at hq; exact hq)
  · refine r_sipush (by decide) iX10_trapOf_11 ?_
    refine r_goto iX10_trapOf_14 ?_
    refine ld_i1 iX10_trapOf_18 ?_
    refine r_isub iX10_trapOf_19 ?_
    refine t_int rfl iX10_trapOf_20 ?_
    first
      | (rw [if_pos (by omega)] at hq; exact hq)
      | (rw [if_neg (by omega)] at hq; exact hq)
theorem c_firstWith {v : Int} {Pq : Int → Nm → Ge → Prop} (hL : La N F) (hv : rL v) (hex : ∃ u, u < 10000 ∧ F u = v) (hq : ∀ b : Nat, b < 10000 → F b = v → (∀ u, u < b → F u ≠ v) → Pq b N g) : Ck K YX10_firstWith hX10_firstWith [vr 40 0, vl v] N g (qI Pq) := by
  obtain ⟨t, t1, t2⟩ := hex
  refine Ck.intro 1 (by decide) rfl ?_
  show AW _ _ _ _ _ [some (vr 40 0), some (vl v), none, none] _ _ _
  have loop : ∀ (n w : Nat) (c : Int), t - w = n → w ≤ t → c = w → (∀ u, u < w → F u ≠ v) → AW K YX10_firstWith hX10_firstWith (qI Pq) 2 [some (vr 40 0), some (vl v), none, some (vi c)] [] N g := by
    intro n
    induction n using Nat.strongRecOn with
    | _ n ih =>
      intro w c e h1 hc h2
      subst hc
      have b1 := hL w (by omega)
      refine ld_a0 iX10_firstWith_2 ?_
      refine gf_X10_line kFX10_63 iX10_firstWith_3 ?_
      refine ld_i3 iX10_firstWith_6 ?_
      refine al_57 rfl (by omega) iX10_firstWith_7 ?_
      rw [b1.1]
      refine ld_l1 iX10_firstWith_8 ?_
      refine r_lceq iX10_firstWith_9 iX10_firstWith_10 (by omega) (by omega) (fun h9 => ?_) (fun h9 => ?_)
      · refine ld_i3 iX10_firstWith_19 ?_
        refine t_int rfl iX10_firstWith_20 ?_
        exact hq w (by omega) h9 h2
      · refine inc_3 (by decide) rfl iX10_firstWith_13 ?_
        refine r_goto iX10_firstWith_16 ?_
        have hne : w ≠ t := fun q => h9 (by rw [q]; exact t2)
        refine ih (t - (w + 1)) (by omega) (w + 1) _ rfl (by omega) (by omega) (fun u hu => ?_)
        by_cases eu : u = w
        · rw [eu]; exact h9
        · exact h2 u (by omega)
  refine r_iconst iX10_firstWith_0 ?_
  refine sv_i3 (by decide) rfl iX10_firstWith_1 ?_
  exact loop t 0 _ (by omega) (by omega) (by omega) (fun u hu => by omega)
theorem c_extreme {m : Bool} {Pq : Int → Nm → Ge → Prop} (hL : La N F) (hq : ∀ b : Nat, b < 10000 → (∀ u, u < 10000 → if m then F u ≤ F b else F b ≤ F u) → Pq (F b) N g) : Ck K YX10_extreme hX10_extreme [vr 40 0, vi (if m then 1 else 0)] N g (qL Pq) := by
  refine Ck.intro 3 (by decide) rfl ?_
  show AW _ _ _ _ _ [some (vr 40 0), some (vi (if m then 1 else 0)), none, none, none] _ _ _
  have hm01 : (if m then (1 : Int) else 0) = 0 ∨ (if m then (1 : Int) else 0) = 1 := by split <;> omega
  have loop : ∀ (n w : Nat) (a c : Int), 10000 - w = n → 1 ≤ w → w ≤ 10000 → c = w → (∃ b, b < w ∧ a = F b ∧ ∀ u, u < w → if m then F u ≤ F b else F b ≤ F u) → AW K YX10_extreme hX10_extreme (qL Pq) 10 [some (vr 40 0), some (vi (if m then 1 else 0)), some (vl a), none, some (vi c)] [] N g := by
    intro n
    induction n using Nat.strongRecOn with
    | _ n ih =>
      intro w a c e h0 h1 hc hb
      subst hc
      obtain ⟨b, b1, b2, b3⟩ := hb
      subst b2
      have bb := (hL b (by omega)).2
      have tl : ∀ x : Int, w < 10000 → x = (if m then max (F b) (F w) else min (F b) (F w)) → AW K YX10_extreme hX10_extreme (qL Pq) 47 [some (vr 40 0), some (vi (if m then 1 else 0)), some (vl (F b)), none, some (vi w)] [vl x] N g := by
        intro x hw hx
        refine sv_l2 (by decide) rfl iX10_extreme_47 ?_
        refine inc_4 (by decide) rfl iX10_extreme_48 ?_
        refine r_goto iX10_extreme_51 ?_
        refine ih (10000 - (w + 1)) (by omega) (w + 1) _ _ rfl (by omega) (by omega) (by omega) ?_
        cases m with
        | true =>
          have hx : x = max (F b) (F w) := hx
          rcases Int.le_total (F b) (F w) with z | z
          · refine ⟨w, by omega, by omega, fun u hu => ?_⟩
            show F u ≤ F w
            by_cases eu : u = w
            · rw [eu]; omega
            · have y : F u ≤ F b := b3 u (by omega)
              omega
          · refine ⟨b, by omega, by omega, fun u hu => ?_⟩
            show F u ≤ F b
            by_cases eu : u = w
            · rw [eu]; omega
            · exact b3 u (by omega)
        | false =>
          have hx : x = min (F b) (F w) := hx
          rcases Int.le_total (F b) (F w) with z | z
          · refine ⟨b, by omega, by omega, fun u hu => ?_⟩
            show F b ≤ F u
            by_cases eu : u = w
            · rw [eu]; omega
            · exact b3 u (by omega)
          · refine ⟨w, by omega, by omega, fun u hu => ?_⟩
            show F w ≤ F u
            by_cases eu : u = w
            · rw [eu]; omega
            · have y : F b ≤ F u := b3 u (by omega)
              omega
      refine ld_i4 iX10_extreme_10 ?_
      refine r_sipush (by decide) iX10_extreme_12 ?_
      refine r_icmpge iX10_extreme_15 (by omega) (by omega) (fun h15 => ?_) (fun h15 => ?_)
      · refine ld_l2 iX10_extreme_54 ?_
        refine t_long rfl iX10_extreme_55 ?_
        refine hq b (by omega) (fun u hu => b3 u (by omega))
      · have bw := hL w (by omega)
        refine ld_i1 iX10_extreme_18 ?_
        refine r_ifeq iX10_extreme_19 (by omega) (fun h19 => ?_) (fun h19 => ?_)
        · refine ld_l2 iX10_extreme_36 ?_
          refine ld_a0 iX10_extreme_37 ?_
          refine gf_X10_line kFX10_63 iX10_extreme_38 ?_
          refine ld_i4 iX10_extreme_41 ?_
          refine al_57 rfl (by omega) iX10_extreme_43 ?_
          rw [bw.1]
          refine xJ9_min_f86c9 kMX10_339 iX10_extreme_44 (by decide) (Nat.le_of_ble_eq_true rfl) rfl rfl ?_
          refine c_minL (by omega) (by omega) ?_
          refine tl _ (by omega) ?_
          cases m
          · first
            | rfl
            | exact absurd rfl h19
          · first
            | rfl
            | exact absurd h19 (by decide)
        · refine ld_l2 iX10_extreme_22 ?_
          refine ld_a0 iX10_extreme_23 ?_
          refine gf_X10_line kFX10_63 iX10_extreme_24 ?_
          refine ld_i4 iX10_extreme_27 ?_
          refine al_57 rfl (by omega) iX10_extreme_29 ?_
          rw [bw.1]
          refine xJ9_max_f86c9 kMX10_193 iX10_extreme_30 (by decide) (Nat.le_of_ble_eq_true rfl) rfl rfl ?_
          refine c_maxL (by omega) (by omega) ?_
          refine r_goto iX10_extreme_33 ?_
          refine tl _ (by omega) ?_
          cases m
          · first
            | rfl
            | exact absurd rfl h19
          · first
            | rfl
            | exact absurd h19 (by decide)
  refine ld_a0 iX10_extreme_0 ?_
  refine gf_X10_line kFX10_63 iX10_extreme_1 ?_
  refine r_iconst iX10_extreme_4 ?_
  refine al_57 (n := 0) (by omega) (by omega) iX10_extreme_5 ?_
  rw [(hL 0 (by omega)).1]
  refine sv_l2 (by decide) rfl iX10_extreme_6 ?_
  refine r_iconst iX10_extreme_7 ?_
  refine sv_i4 (by decide) rfl iX10_extreme_8 ?_
  exact loop 9999 1 _ _ (by omega) (by omega) (by omega) (by omega) ⟨0, by omega, rfl, fun u hu => by rw [show u = 0 by omega]; split <;> exact Int.le_refl _⟩
theorem c_mSteepest {Pq : Int → Nm → Ge → Prop} (hL : La N F) (hq : ∀ b : Nat, b < 9999 → Amx (fun w => F w - F (w + 1)) (fun _ => True) 9999 b → Pq b N g) : Ck K YX10_steepest hX10_steepest [vr 40 0] N g (qI Pq) := by
  refine Ck.intro 2 (by decide) rfl ?_
  show AW _ _ _ _ _ [some (vr 40 0), none, none] _ _ _
  have ste : ∀ w, w < 9999 → stp F w = F (w + 1) - F w := fun w hw => if_pos hw
  have loop : ∀ (n w b : Nat) (a c : Int), 9999 - w = n → 1 ≤ w → w ≤ 9999 → c = w → a = b → b < w → (∀ u, u < w → F u - F (u + 1) ≤ F b - F (b + 1)) → (∀ u, u < b → F u - F (u + 1) < F b - F (b + 1)) → AW K YX10_steepest hX10_steepest (qI Pq) 4 [some (vr 40 0), some (vi a), some (vi c)] [] N g := by
    intro n
    induction n using Nat.strongRecOn with
    | _ n ih =>
      intro w b a c e h0 h1 hc ha hb h2 h3
      subst hc
      subst ha
      refine ld_i2 iX10_steepest_4 ?_
      refine r_sipush (by decide) iX10_steepest_5 ?_
      refine r_icmpge iX10_steepest_8 (by omega) (by omega) (fun h8 => ?_) (fun h8 => ?_)
      · refine ld_i1 iX10_steepest_37 ?_
        refine t_int rfl iX10_steepest_38 ?_
        have e : w = 9999 := by omega
        rw [e] at h2 hb
        exact hq b hb (Or.inr ⟨b, rfl, hb, trivial, fun u hu _ => h2 u hu, fun u hu _ => h3 u hu⟩)
      · have s1 := stp_bd hL.bd (show w < 10000 by omega)
        have s2 := stp_bd hL.bd (show b < 10000 by omega)
        have e1 := ste w (by omega)
        have e2 := ste b (by omega)
        refine ld_a0 iX10_steepest_11 ?_
        refine ld_i2 iX10_steepest_12 ?_
        refine xX10_step kMX10_225 iX10_steepest_13 (by decide) (Nat.le_of_ble_eq_true rfl) rfl rfl ?_
        refine c_step hL (by omega) ?_
        refine ld_a0 iX10_steepest_16 ?_
        refine ld_i1 iX10_steepest_17 ?_
        refine xX10_step kMX10_225 iX10_steepest_18 (by decide) (Nat.le_of_ble_eq_true rfl) rfl rfl ?_
        refine c_step hL (by omega) ?_
        refine r_lcge iX10_steepest_21 iX10_steepest_22 (by omega) (by omega) (fun h21 => ?_) (fun h21 => ?_)
        · refine ld_i1 iX10_steepest_29 ?_
          refine sv_i1 (by decide) rfl iX10_steepest_30 ?_
          refine inc_2 (by decide) rfl iX10_steepest_31 ?_
          refine r_goto iX10_steepest_34 ?_
          first
            | exact ih (9999 - (w + 1)) (by omega) (w + 1) b _ _ rfl (by omega) (by omega) (by omega) rfl (by omega) (fun u hu => by by_cases eu : u = w; (rw [eu]; omega); exact h2 u (by omega)) h3
            | exact ih (9999 - (w + 1)) (by omega) (w + 1) w _ _ rfl (by omega) (by omega) (by omega) rfl (by omega) (fun u hu => by by_cases eu : u = w; (rw [eu]; omega); (have := h2 u (by omega); omega)) (fun u hu => by have := h2 u hu; omega)
        · refine ld_i2 iX10_steepest_25 ?_
          refine r_goto iX10_steepest_26 ?_
          refine sv_i1 (by decide) rfl iX10_steepest_30 ?_
          refine inc_2 (by decide) rfl iX10_steepest_31 ?_
          refine r_goto iX10_steepest_34 ?_
          first
            | exact ih (9999 - (w + 1)) (by omega) (w + 1) b _ _ rfl (by omega) (by omega) (by omega) rfl (by omega) (fun u hu => by by_cases eu : u = w; (rw [eu]; omega); exact h2 u (by omega)) h3
            | exact ih (9999 - (w + 1)) (by omega) (w + 1) w _ _ rfl (by omega) (by omega) (by omega) rfl (by omega) (fun u hu => by by_cases eu : u = w; (rw [eu]; omega); (have := h2 u (by omega); omega)) (fun u hu => by have := h2 u hu; omega)
  refine r_iconst iX10_steepest_0 ?_
  refine sv_i1 (by decide) rfl iX10_steepest_1 ?_
  refine r_iconst iX10_steepest_2 ?_
  refine sv_i2 (by decide) rfl iX10_steepest_3 ?_
  exact loop 9998 1 0 _ _ (by omega) (by omega) (by omega) (by omega) rfl (by omega) (fun u hu => by rw [show u = 0 by omega]; exact Int.le_refl _) (fun u hu => by omega)
theorem c_flatOnes {Pq : Int → Nm → Ge → Prop} (hL : La N F) (hP : Lp N P s) (hs : Ps F P s) (hq : Pq (ct (flS F s) P) N g) : Ck K YX10_flatOnes hX10_flatOnes [vr 40 0] N g (qI Pq) := by
  have hPl := hs.P_le
  refine Ck.intro 2 (by decide) rfl ?_
  show AW _ _ _ _ _ [some (vr 40 0), none, none] _ _ _
  have loop : ∀ (n p : Nat) (a c : Int), P - p = n → p ≤ P → c = p → a = ct (flS F s) p → AW K YX10_flatOnes hX10_flatOnes (qI Pq) 4 [some (vr 40 0), some (vi a), some (vi c)] [] N g := by
    intro n
    induction n using Nat.strongRecOn with
    | _ n ih =>
      intro p a c e h1 hc ha
      subst hc
      refine ld_i2 iX10_flatOnes_4 ?_
      refine ld_a0 iX10_flatOnes_5 ?_
      refine gf_X10_pieces kFX10_222 iX10_flatOnes_6 ?_
      rw [hP.1]
      refine r_icmpge iX10_flatOnes_9 (by omega) (by omega) (fun h9 => ?_) (fun h9 => ?_)
      · refine ld_i1 iX10_flatOnes_55 ?_
        refine t_int rfl iX10_flatOnes_56 ?_
        have e : p = P := by omega
        rw [ha, e]; exact hq
      · have hp := hP.2 p (by omega)
        have t1 := hs.top (show p + 1 ≤ P by omega)
        have t0 := hs.lt (show p < P by omega)
        have t2 := hs.2.2.2.1 p (by omega)
        have sb := stp_bd hL.bd t0
        refine ld_i1 iX10_flatOnes_12 ?_
        refine ld_a0 iX10_flatOnes_13 ?_
        refine gf_X10_pieceFrom kFX10_66 iX10_flatOnes_14 ?_
        refine ld_i2 iX10_flatOnes_17 ?_
        refine al_58 rfl (by omega) iX10_flatOnes_18 ?_
        rw [hp]
        refine ld_a0 iX10_flatOnes_19 ?_
        refine ld_i2 iX10_flatOnes_20 ?_
        refine xX10_pieceTo kMX10_256 iX10_flatOnes_21 (by decide) (Nat.le_of_ble_eq_true rfl) rfl rfl ?_
        refine c_pieceTo hP hs (by omega) ?_
        refine r_icmpge iX10_flatOnes_24 (by omega) (by omega) (fun h24 => ?_) (fun h24 => ?_)
        · refine r_iconst iX10_flatOnes_46 ?_
          refine r_iadd iX10_flatOnes_47 ?_
          refine sv_i1 (by decide) rfl iX10_flatOnes_48 ?_
          refine inc_2 (by decide) rfl iX10_flatOnes_49 ?_
          refine r_goto iX10_flatOnes_52 ?_
          first
            | exact ih (P - (p + 1)) (by omega) (p + 1) _ _ rfl (by omega) (by omega) (by rw [ct, show flS F s p = true from decide_eq_true ⟨by omega, by omega⟩, ha]; simp)
            | exact ih (P - (p + 1)) (by omega) (p + 1) _ _ rfl (by omega) (by omega) (by rw [ct, show flS F s p = false from decide_eq_false (fun q => by omega), ha]; simp)
        · refine ld_a0 iX10_flatOnes_27 ?_
          refine ld_a0 iX10_flatOnes_28 ?_
          refine gf_X10_pieceFrom kFX10_66 iX10_flatOnes_29 ?_
          refine ld_i2 iX10_flatOnes_32 ?_
          refine al_58 rfl (by omega) iX10_flatOnes_33 ?_
          rw [hp]
          refine xX10_step kMX10_225 iX10_flatOnes_34 (by decide) (Nat.le_of_ble_eq_true rfl) rfl rfl ?_
          refine c_step hL t0 ?_
          refine r_lconst (v := 0) (by decide) iX10_flatOnes_37 ?_
          refine r_lcne iX10_flatOnes_38 iX10_flatOnes_39 (by omega) (by omega) (fun h38 => ?_) (fun h38 => ?_)
          · refine r_iconst iX10_flatOnes_46 ?_
            refine r_iadd iX10_flatOnes_47 ?_
            refine sv_i1 (by decide) rfl iX10_flatOnes_48 ?_
            refine inc_2 (by decide) rfl iX10_flatOnes_49 ?_
            refine r_goto iX10_flatOnes_52 ?_
            first
              | exact ih (P - (p + 1)) (by omega) (p + 1) _ _ rfl (by omega) (by omega) (by rw [ct, show flS F s p = true from decide_eq_true ⟨by omega, by omega⟩, ha]; simp)
              | exact ih (P - (p + 1)) (by omega) (p + 1) _ _ rfl (by omega) (by omega) (by rw [ct, show flS F s p = false from decide_eq_false (fun q => by omega), ha]; simp)
          · refine r_iconst iX10_flatOnes_42 ?_
            refine r_goto iX10_flatOnes_43 ?_
            refine r_iadd iX10_flatOnes_47 ?_
            refine sv_i1 (by decide) rfl iX10_flatOnes_48 ?_
            refine inc_2 (by decide) rfl iX10_flatOnes_49 ?_
            refine r_goto iX10_flatOnes_52 ?_
            first
              | exact ih (P - (p + 1)) (by omega) (p + 1) _ _ rfl (by omega) (by omega) (by rw [ct, show flS F s p = true from decide_eq_true ⟨by omega, by omega⟩, ha]; simp)
              | exact ih (P - (p + 1)) (by omega) (p + 1) _ _ rfl (by omega) (by omega) (by rw [ct, show flS F s p = false from decide_eq_false (fun q => by omega), ha]; simp)
  refine r_iconst iX10_flatOnes_0 ?_
  refine sv_i1 (by decide) rfl iX10_flatOnes_1 ?_
  refine r_iconst iX10_flatOnes_2 ?_
  refine sv_i2 (by decide) rfl iX10_flatOnes_3 ?_
  exact loop P 0 _ _ (by omega) (by omega) (by omega) rfl
theorem c_mWidest {Pq : Int → Nm → Ge → Prop} (hP : Lp N P s) (hs : Ps F P s) (hq : ∀ r, Amx (fun p => (s (p + 1) : Int) - s p) (fun _ => True) P r → Pq r N g) : Ck K YX10_widest hX10_widest [vr 40 0] N g (qI Pq) := by
  have hPl := hs.P_le
  have hP1 := hs.1
  refine Ck.intro 2 (by decide) rfl ?_
  show AW _ _ _ _ _ [some (vr 40 0), none, none] _ _ _
  have loop : ∀ (n p b : Nat) (a c : Int), P - p = n → 1 ≤ p → p ≤ P → c = p → a = b → b < p → (∀ u, u < p → (s (u + 1) : Int) - s u ≤ (s (b + 1) : Int) - s b) → (∀ u, u < b → (s (u + 1) : Int) - s u < (s (b + 1) : Int) - s b) → AW K YX10_widest hX10_widest (qI Pq) 4 [some (vr 40 0), some (vi a), some (vi c)] [] N g := by
    intro n
    induction n using Nat.strongRecOn with
    | _ n ih =>
      intro p b a c e h0 h1 hc ha hb h2 h3
      subst hc
      subst ha
      refine ld_i2 iX10_widest_4 ?_
      refine ld_a0 iX10_widest_5 ?_
      refine gf_X10_pieces kFX10_222 iX10_widest_6 ?_
      rw [hP.1]
      refine r_icmpge iX10_widest_9 (by omega) (by omega) (fun h9 => ?_) (fun h9 => ?_)
      · refine ld_i1 iX10_widest_51 ?_
        refine t_int rfl iX10_widest_52 ?_
        have e : p = P := by omega
        rw [e] at h2 hb
        exact hq b (Or.inr ⟨b, rfl, hb, trivial, fun u hu _ => h2 u hu, fun u hu _ => h3 u hu⟩)
      · have hp := hP.2 p (by omega)
        have hpb := hP.2 b (by omega)
        have t1 := hs.top (show p + 1 ≤ P by omega)
        have t2 := hs.top (show b + 1 ≤ P by omega)
        have t3 := hs.lt (show p < P by omega)
        have t4 := hs.lt (show b < P by omega)
        refine ld_a0 iX10_widest_12 ?_
        refine ld_i2 iX10_widest_13 ?_
        refine xX10_pieceTo kMX10_256 iX10_widest_14 (by decide) (Nat.le_of_ble_eq_true rfl) rfl rfl ?_
        refine c_pieceTo hP hs (by omega) ?_
        refine ld_a0 iX10_widest_17 ?_
        refine gf_X10_pieceFrom kFX10_66 iX10_widest_18 ?_
        refine ld_i2 iX10_widest_21 ?_
        refine al_58 rfl (by omega) iX10_widest_22 ?_
        rw [hp]
        refine r_isub iX10_widest_23 ?_
        refine ld_a0 iX10_widest_24 ?_
        refine ld_i1 iX10_widest_25 ?_
        refine xX10_pieceTo kMX10_256 iX10_widest_26 (by decide) (Nat.le_of_ble_eq_true rfl) rfl rfl ?_
        refine c_pieceTo hP hs (by omega) ?_
        refine ld_a0 iX10_widest_29 ?_
        refine gf_X10_pieceFrom kFX10_66 iX10_widest_30 ?_
        refine ld_i1 iX10_widest_33 ?_
        refine al_58 rfl (by omega) iX10_widest_34 ?_
        rw [hpb]
        refine r_isub iX10_widest_35 ?_
        refine r_icmple iX10_widest_36 (by omega) (by omega) (fun h36 => ?_) (fun h36 => ?_)
        · refine ld_i1 iX10_widest_43 ?_
          refine sv_i1 (by decide) rfl iX10_widest_44 ?_
          refine inc_2 (by decide) rfl iX10_widest_45 ?_
          refine r_goto iX10_widest_48 ?_
          first
            | exact ih (P - (p + 1)) (by omega) (p + 1) b _ _ rfl (by omega) (by omega) (by omega) rfl (by omega) (fun u hu => by by_cases eu : u = p; (rw [eu]; omega); exact h2 u (by omega)) h3
            | exact ih (P - (p + 1)) (by omega) (p + 1) p _ _ rfl (by omega) (by omega) (by omega) rfl (by omega) (fun u hu => by by_cases eu : u = p; (rw [eu]; omega); (have := h2 u (by omega); omega)) (fun u hu => by have := h2 u hu; omega)
        · refine ld_i2 iX10_widest_39 ?_
          refine r_goto iX10_widest_40 ?_
          refine sv_i1 (by decide) rfl iX10_widest_44 ?_
          refine inc_2 (by decide) rfl iX10_widest_45 ?_
          refine r_goto iX10_widest_48 ?_
          first
            | exact ih (P - (p + 1)) (by omega) (p + 1) b _ _ rfl (by omega) (by omega) (by omega) rfl (by omega) (fun u hu => by by_cases eu : u = p; (rw [eu]; omega); exact h2 u (by omega)) h3
            | exact ih (P - (p + 1)) (by omega) (p + 1) p _ _ rfl (by omega) (by omega) (by omega) rfl (by omega) (fun u hu => by by_cases eu : u = p; (rw [eu]; omega); (have := h2 u (by omega); omega)) (fun u hu => by have := h2 u hu; omega)
  refine r_iconst iX10_widest_0 ?_
  refine sv_i1 (by decide) rfl iX10_widest_1 ?_
  refine r_iconst iX10_widest_2 ?_
  refine sv_i2 (by decide) rfl iX10_widest_3 ?_
  exact loop (P - 1) 1 0 _ _ rfl (by omega) (by omega) (by omega) rfl (by omega) (fun u hu => by rw [show u = 0 by omega]; exact Int.le_refl _) (fun u hu => by omega)
theorem c_traps {m : Bool} {Pq : Int → Nm → Ge → Prop} (hL : La N F) (hq : Pq (if m then (lr (trB F) 10000 : Int) else ct (trB F) 10000) N g) : Ck K YX10_traps hX10_traps [vr 40 0, vi (if m then 1 else 0)] N g (qI Pq) := by
  refine Ck.intro 5 (by decide) rfl ?_
  show AW _ _ _ _ _ [some (vr 40 0), some (vi (if m then 1 else 0)), none, none, none, none, none] _ _ _
  have hm01 : (if m then (1 : Int) else 0) = 0 ∨ (if m then (1 : Int) else 0) = 1 := by split <;> omega
  have loop : ∀ (n w U : Nat) (l a u c : Int), 10000 - w = n → 1 ≤ w → w ≤ 10000 → c = w → u = U → TrT F w U a l → AW K YX10_traps hX10_traps (qI Pq) 10 [some (vr 40 0), some (vi (if m then 1 else 0)), some (vi l), some (vi a), some (vi u), some (vi c), none] [] N g := by
    intro n
    induction n using Nat.strongRecOn with
    | _ n ih =>
      intro w U l a u c e h0 h1 hc hu hT
      subst hc
      subst hu
      have hb : (0 ≤ a ∧ a ≤ 10000) ∧ (0 ≤ l ∧ l ≤ 10000) ∧ U ≤ 10000 := by
        rcases hT with ⟨b1, b2, b3, b4⟩ | ⟨b1, b2, b3, b4, b5, b6⟩
        · have := ct_le (trB F) w; have := (rn_le (trB F) w).2; omega
        · have := ct_le (trB F) U; have := (rn_le (trB F) U).2; omega
      refine ld_i5 iX10_traps_10 ?_
      refine r_sipush (by decide) iX10_traps_12 ?_
      refine r_icmpge iX10_traps_15 (by omega) (by omega) (fun h15 => ?_) (fun h15 => ?_)
      · have e : w = 10000 := by omega
        have hfin : a = ct (trB F) 10000 ∧ l = lr (trB F) 10000 := by
          rw [e] at hT
          rcases hT with ⟨b1, b2, b3, b4⟩ | ⟨b1, b2, b3, b4, b5, b6⟩
          · exact ⟨b2, b3⟩
          · omega
        refine ld_i1 iX10_traps_91 ?_
        refine r_ifeq iX10_traps_92 (by omega) (fun h92 => ?_) (fun h92 => ?_)
        · refine ld_i3 iX10_traps_99 ?_
          refine t_int rfl iX10_traps_100 ?_
          cases m
          · first
            | (rw [hfin.1]; exact hq)
            | exact absurd rfl h92
          · first
            | (rw [hfin.2]; exact hq)
            | exact absurd h92 (by decide)
        · refine ld_i2 iX10_traps_95 ?_
          refine r_goto iX10_traps_96 ?_
          refine t_int rfl iX10_traps_100 ?_
          cases m
          · first
            | (rw [hfin.1]; exact hq)
            | exact absurd rfl h92
          · first
            | (rw [hfin.2]; exact hq)
            | exact absurd h92 (by decide)
      · have b1 := hL w (by omega)
        have b2 := hL (w - 1) (by omega)
        refine ld_a0 iX10_traps_18 ?_
        refine gf_X10_line kFX10_63 iX10_traps_19 ?_
        refine ld_i5 iX10_traps_22 ?_
        refine al_57 rfl (by omega) iX10_traps_24 ?_
        rw [b1.1]
        refine ld_a0 iX10_traps_25 ?_
        refine gf_X10_line kFX10_63 iX10_traps_26 ?_
        refine ld_i5 iX10_traps_29 ?_
        refine r_iconst iX10_traps_31 ?_
        refine r_isub iX10_traps_32 ?_
        refine al_57 (n := (w - 1)) (by omega) (by omega) iX10_traps_33 ?_
        rw [b2.1]
        refine r_lcge iX10_traps_34 iX10_traps_35 (by omega) (by omega) (fun h34 => ?_) (fun h34 => ?_)
        · refine inc_5 (by decide) rfl iX10_traps_85 ?_
          refine r_goto iX10_traps_88 ?_
          first
            | exact ih (10000 - (w + 1)) (by omega) (w + 1) U _ _ _ _ rfl (by omega) (by omega) (by omega) rfl (hT.flat h0 (by omega) (by omega))
            | (refine fg_6 ?_
               obtain ⟨U', hU'⟩ : ∃ U' : Nat, (U' : Int) = max (U : Int) e' := ⟨(max (U : Int) e').toNat, by omega⟩
               exact ih (10000 - (w + 1)) (by omega) (w + 1) U' _ _ _ _ rfl (by omega) (by omega) (by omega) (by omega) (hT.cliff h0 (by omega) (by omega) e2 e3 e4 hU' (by omega) (by omega)))
        · refine ld_a0 iX10_traps_38 ?_
          refine ld_i5 iX10_traps_39 ?_
          refine xX10_trapOf kMX10_262 iX10_traps_41 (by decide) (Nat.le_of_ble_eq_true rfl) rfl rfl ?_
          refine c_trapOf hL (by omega) (by omega) (fun r hr => ?_)
          obtain ⟨e', e1, e2, e3, e4⟩ : ∃ e' : Nat, (if r = -1 then 10000 else r) = (e' : Int) ∧ (w < e' ∧ e' ≤ 10000) ∧ (∀ v, w ≤ v → v < e' → F v < F (w - 1)) ∧ (e' < 10000 → F (w - 1) ≤ F e') := by
            rcases hr with ⟨q, q2⟩ | ⟨z, q, q1, q2, q3, q4⟩
            · refine ⟨10000, by rw [if_pos q]; rfl, ⟨by omega, Nat.le_refl _⟩, fun v v1 v2 => ?_, fun z => by omega⟩
              have := q2 v v1 v2; omega
            · refine ⟨z, by rw [if_neg (by omega)]; exact q, ⟨?_, by omega⟩, fun v v1 v2 => ?_, fun _ => q3⟩
              · rcases Nat.lt_or_ge w z with y | y
                · exact y
                · have e : z = w := by omega
                  rw [e] at q3; omega
              · have := q4 v v1 v2; omega
          rw [e1]
          refine sv_i6 (by decide) rfl iX10_traps_44 ?_
          refine ld_i2 iX10_traps_46 ?_
          refine ld_i6 iX10_traps_47 ?_
          refine xJ9_max_7cf53 kMX10_123 iX10_traps_49 (by decide) (Nat.le_of_ble_eq_true rfl) rfl rfl ?_
          refine c_maxI (by omega) (by omega) ?_
          refine sv_i2 (by decide) rfl iX10_traps_52 ?_
          refine ld_i3 iX10_traps_53 ?_
          refine r_iconst iX10_traps_54 ?_
          refine ld_i5 iX10_traps_55 ?_
          refine ld_i6 iX10_traps_57 ?_
          refine r_iadd iX10_traps_59 ?_
          refine ld_i5 iX10_traps_60 ?_
          refine ld_i4 iX10_traps_62 ?_
          refine xJ9_max_7cf53 kMX10_123 iX10_traps_64 (by decide) (Nat.le_of_ble_eq_true rfl) rfl rfl ?_
          refine c_maxI (by omega) (by omega) ?_
          refine r_isub iX10_traps_67 ?_
          refine xJ9_max_7cf53 kMX10_123 iX10_traps_68 (by decide) (Nat.le_of_ble_eq_true rfl) rfl rfl ?_
          refine c_maxI (by omega) (by omega) ?_
          refine r_iadd iX10_traps_71 ?_
          refine sv_i3 (by decide) rfl iX10_traps_72 ?_
          refine ld_i4 iX10_traps_73 ?_
          refine ld_i5 iX10_traps_75 ?_
          refine ld_i6 iX10_traps_77 ?_
          refine r_iadd iX10_traps_79 ?_
          refine xJ9_max_7cf53 kMX10_123 iX10_traps_80 (by decide) (Nat.le_of_ble_eq_true rfl) rfl rfl ?_
          refine c_maxI (by omega) (by omega) ?_
          refine sv_i4 (by decide) rfl iX10_traps_83 ?_
          refine inc_5 (by decide) rfl iX10_traps_85 ?_
          refine r_goto iX10_traps_88 ?_
          first
            | exact ih (10000 - (w + 1)) (by omega) (w + 1) U _ _ _ _ rfl (by omega) (by omega) (by omega) rfl (hT.flat h0 (by omega) (by omega))
            | (refine fg_6 ?_
               obtain ⟨U', hU'⟩ : ∃ U' : Nat, (U' : Int) = max (U : Int) e' := ⟨(max (U : Int) e').toNat, by omega⟩
               exact ih (10000 - (w + 1)) (by omega) (w + 1) U' _ _ _ _ rfl (by omega) (by omega) (by omega) (by omega) (hT.cliff h0 (by omega) (by omega) e2 e3 e4 hU' (by omega) (by omega)))
  refine r_iconst iX10_traps_0 ?_
  refine sv_i2 (by decide) rfl iX10_traps_1 ?_
  refine r_iconst iX10_traps_2 ?_
  refine sv_i3 (by decide) rfl iX10_traps_3 ?_
  refine r_iconst iX10_traps_4 ?_
  refine sv_i4 (by decide) rfl iX10_traps_5 ?_
  refine r_iconst iX10_traps_7 ?_
  refine sv_i5 (by decide) rfl iX10_traps_8 ?_
  exact loop 9999 1 0 _ _ _ _ (by omega) (by omega) (by omega) (by omega) (by omega) (Or.inl ⟨by omega, by rw [ct, ct, show trB F 0 = false from decide_eq_false (by rw [mxF]; omega)]; rfl, by rw [lr, lr, rn, show trB F 0 = false from decide_eq_false (by rw [mxF]; omega)]; rfl, Or.inl (decide_eq_false (by show ¬ F 0 < mxF F 0; rw [mxF]; omega))⟩)
end MLine8
