/-! own text: a rule is spelt -/
def gt' (l : List Int) (w : Int) : Int := if 0 ≤ w then (l[w.toNat]?).getD (-1) else -1
def SpX (N : Nm) (l : List Int) (w : Int) : Prop := N 18 0 0 = (l.length : Int) ∧ N 18 0 1 = w ∧ N 18 0 2 = gt' l w
theorem gt_app {l : List Int} {c w : Int} : gt' (l ++ [c]) w = if (l.length : Int) = w then c else gt' l w := by
  unfold gt'
  by_cases h0 : 0 ≤ w
  · rw [if_pos h0, if_pos h0]
    by_cases e : (l.length : Int) = w
    · rw [if_pos e, show w.toNat = l.length by omega]; simp
    · rw [if_neg e]
      rcases Nat.lt_or_ge w.toNat l.length with q | q
      · rw [List.getElem?_append_left q]
      · rw [List.getElem?_eq_none (by simp; omega), List.getElem?_eq_none q]
  · rw [if_neg h0, if_neg h0, if_neg (by omega)]
/-- the digits of a number -/
def dg (v : Int) : List Int := (if 1000 ≤ v then [48 + v / 1000 % 10] else []) ++ ((if 100 ≤ v then [48 + v / 100 % 10] else []) ++ ((if 10 ≤ v then [48 + v / 10 % 10] else []) ++ [48 + v % 10]))
section Spell9
variable {K : Kx} {N : Nm} {g : Ge} {l : List Int} {w : Int}
theorem c_put {c : Int} {Pq : Nm → Ge → Prop} (hS : SpX N l w) (hl : l.length ≤ 1000) (rw' : rI w) (hq : ∀ N', FrX 18 18 N N' → SpX N' (l ++ [c]) w → Pq N' g) : Ck K YX6_put hX6_put [vr 18 0, vi c] N g (qV Pq) := by
  obtain ⟨s1, s2, s3⟩ := hS
  refine Ck.intro 0 (by decide) rfl ?_
  show AW _ _ _ _ _ [some (vr 18 0), some (vi c)] _ _ _
  refine ld_a0 iX6_put_0 ?_
  refine gf_X6_written kFX6_9 iX6_put_1 ?_
  rw [s1]
  refine ld_a0 iX6_put_4 ?_
  refine gf_X6_wanted kFX6_15 iX6_put_5 ?_
  rw [s2]
  refine r_icmpne iX6_put_8 (by omega) (by omega) (fun h8 => ?_) (fun h8 => ?_)
  · refine ld_a0 iX6_put_16 ?_
    refine r_dup rfl iX6_put_17 ?_
    refine gf_X6_written kFX6_9 iX6_put_18 ?_
    first | rw [s1] | rw [upN_j (by decide), s1]
    refine r_iconst iX6_put_21 ?_
    refine r_iadd iX6_put_22 ?_
    refine pf_X6_written kFX6_9 iX6_put_23 ?_
    refine t_void rfl iX6_put_26 ?_
    first
      | (refine hq _ ((FrX.rf _ _ N).up (by omega)) ⟨?_, ?_, ?_⟩
         · rw [upN_eq]; simp
         · rw [upN_j (by decide)]; exact s2
         · rw [upN_j (by decide), s3, gt_app, if_neg (by omega)])
      | (refine hq _ (((FrX.rf _ _ N).up (by omega)).up (by omega)) ⟨?_, ?_, ?_⟩
         · rw [upN_eq]; simp
         · rw [upN_j (by decide), upN_j (by decide)]; exact s2
         · rw [upN_j (by decide), upN_eq, gt_app, if_pos (by omega)])
  · refine ld_a0 iX6_put_11 ?_
    refine ld_i1 iX6_put_12 ?_
    refine pf_X6_found kFX6_18 iX6_put_13 ?_
    refine ld_a0 iX6_put_16 ?_
    refine r_dup rfl iX6_put_17 ?_
    refine gf_X6_written kFX6_9 iX6_put_18 ?_
    first | rw [s1] | rw [upN_j (by decide), s1]
    refine r_iconst iX6_put_21 ?_
    refine r_iadd iX6_put_22 ?_
    refine pf_X6_written kFX6_9 iX6_put_23 ?_
    refine t_void rfl iX6_put_26 ?_
    first
      | (refine hq _ ((FrX.rf _ _ N).up (by omega)) ⟨?_, ?_, ?_⟩
         · rw [upN_eq]; simp
         · rw [upN_j (by decide)]; exact s2
         · rw [upN_j (by decide), s3, gt_app, if_neg (by omega)])
      | (refine hq _ (((FrX.rf _ _ N).up (by omega)).up (by omega)) ⟨?_, ?_, ?_⟩
         · rw [upN_eq]; simp
         · rw [upN_j (by decide), upN_j (by decide)]; exact s2
         · rw [upN_j (by decide), upN_eq, gt_app, if_pos (by omega)])
/-- digits from a unit on -/
def dg0 (_ : Int) : List Int := []
def dg1 (v : Int) : List Int := [48 + v / 1 % 10]
def dg10 (v : Int) : List Int := (if 10 ≤ v then [48 + v / 10 % 10] else []) ++ dg1 v
def dg100 (v : Int) : List Int := (if 100 ≤ v then [48 + v / 100 % 10] else []) ++ dg10 v
def dg1000 (v : Int) : List Int := (if 1000 ≤ v then [48 + v / 1000 % 10] else []) ++ dg100 v
theorem c_writeNumber {v : Int} {Pq : Nm → Ge → Prop} (hS : SpX N l w) (hl : l.length ≤ 800) (rw' : rI w) (hv : 0 ≤ v ∧ v ≤ 9999) (hq : ∀ N', FrX 18 18 N N' → SpX N' (l ++ dg1000 v) w → Pq N' g) : Ck K YX6_writeNumber hX6_writeNumber [vr 18 0, vi v] N g (qV Pq) := by
  refine Ck.intro 1 (by decide) rfl ?_
  show AW _ _ _ _ _ [some (vr 18 0), some (vi v), none] _ _ _
  have t0 : ∀ (N' : Nm) (l' : List Int), l'.length ≤ 901 → FrX 18 18 N N' → SpX N' l' w → (∀ N2, FrX 18 18 N N2 → SpX N2 (l' ++ dg0 v) w → Pq N2 g) → AW K YX6_writeNumber hX6_writeNumber (qV Pq) 4 [some (vr 18 0), some (vi v), some (vi 0)] [] N' g := by
    intro N' l' hl' hF hS hk
    refine ld_i2 iX6_writeNumber_4 ?_
    refine r_iconst iX6_writeNumber_5 ?_
    refine r_icmplt iX6_writeNumber_6 (by omega) (by omega) (fun h6 => ?_) (fun h6 => ?_)
    · refine t_void rfl iX6_writeNumber_40 ?_
      exact hk N' hF (by simpa [dg0] using hS)
    · exfalso; omega
  have t1 : ∀ (N' : Nm) (l' : List Int), l'.length ≤ 900 → FrX 18 18 N N' → SpX N' l' w → (∀ N2, FrX 18 18 N N2 → SpX N2 (l' ++ dg1 v) w → Pq N2 g) → AW K YX6_writeNumber hX6_writeNumber (qV Pq) 4 [some (vr 18 0), some (vi v), some (vi 1)] [] N' g := by
    intro N' l' hl' hF hS hk
    unfold dg1 at hk
    refine ld_i2 iX6_writeNumber_4 ?_
    refine r_iconst iX6_writeNumber_5 ?_
    refine r_icmplt iX6_writeNumber_6 (by omega) (by omega) (fun h6 => ?_) (fun h6 => ?_)
    · exfalso; omega
    · refine ld_i1 iX6_writeNumber_9 ?_
      refine ld_i2 iX6_writeNumber_10 ?_
      refine r_icmpge iX6_writeNumber_11 (by omega) (by omega) (fun h11 => ?_) (fun h11 => ?_)
      · refine ld_a0 iX6_writeNumber_19 ?_
        refine r_bipush (by decide) iX6_writeNumber_20 ?_
        refine ld_i1 iX6_writeNumber_22 ?_
        refine ld_i2 iX6_writeNumber_23 ?_
        refine r_idiv (by omega) (by omega) (by omega) iX6_writeNumber_24 ?_
        rw [Int.tdiv_eq_ediv_of_nonneg (by omega)]
        refine r_bipush (by decide) iX6_writeNumber_25 ?_
        refine r_irem (by omega) (by omega) (by omega) iX6_writeNumber_27 ?_
        rw [Int.tmod_eq_emod_of_nonneg (by omega)]
        refine r_iadd iX6_writeNumber_28 ?_
        refine xX6_put kMX6_21 iX6_writeNumber_29 (by decide) (Nat.le_of_ble_eq_true rfl) rfl rfl ?_
        refine c_put hS (by omega) rw' (fun N2 e1 e2 => ?_)
        refine ld_i2 iX6_writeNumber_32 ?_
        refine r_bipush (by decide) iX6_writeNumber_33 ?_
        refine r_idiv (by omega) (by omega) (by omega) iX6_writeNumber_35 ?_
        refine sv_i2 (by decide) rfl iX6_writeNumber_36 ?_
        refine r_goto iX6_writeNumber_37 ?_
        first
          | (refine t0 N2 _ (by simp; omega) (hF.tr e1) e2 (fun N3 k1 k2 => hk N3 k1 ?_)
             skip
             simpa [List.append_assoc, dg0] using k2)
          | (refine t0 N' _ (by omega) hF hS (fun N3 k1 k2 => hk N3 k1 ?_)
             rw [if_neg (by omega)]
             simpa using k2)
      · refine ld_i2 iX6_writeNumber_14 ?_
        refine r_iconst iX6_writeNumber_15 ?_
        refine r_icmpne iX6_writeNumber_16 (by omega) (by omega) (fun h16 => ?_) (fun h16 => ?_)
        · exfalso; omega
        · refine ld_a0 iX6_writeNumber_19 ?_
          refine r_bipush (by decide) iX6_writeNumber_20 ?_
          refine ld_i1 iX6_writeNumber_22 ?_
          refine ld_i2 iX6_writeNumber_23 ?_
          refine r_idiv (by omega) (by omega) (by omega) iX6_writeNumber_24 ?_
          rw [Int.tdiv_eq_ediv_of_nonneg (by omega)]
          refine r_bipush (by decide) iX6_writeNumber_25 ?_
          refine r_irem (by omega) (by omega) (by omega) iX6_writeNumber_27 ?_
          rw [Int.tmod_eq_emod_of_nonneg (by omega)]
          refine r_iadd iX6_writeNumber_28 ?_
          refine xX6_put kMX6_21 iX6_writeNumber_29 (by decide) (Nat.le_of_ble_eq_true rfl) rfl rfl ?_
          refine c_put hS (by omega) rw' (fun N2 e1 e2 => ?_)
          refine ld_i2 iX6_writeNumber_32 ?_
          refine r_bipush (by decide) iX6_writeNumber_33 ?_
          refine r_idiv (by omega) (by omega) (by omega) iX6_writeNumber_35 ?_
          refine sv_i2 (by decide) rfl iX6_writeNumber_36 ?_
          refine r_goto iX6_writeNumber_37 ?_
          first
            | (refine t0 N2 _ (by simp; omega) (hF.tr e1) e2 (fun N3 k1 k2 => hk N3 k1 ?_)
               skip
               simpa [List.append_assoc, dg0] using k2)
            | (refine t0 N' _ (by omega) hF hS (fun N3 k1 k2 => hk N3 k1 ?_)
               rw [if_neg (by omega)]
               simpa using k2)
  have t10 : ∀ (N' : Nm) (l' : List Int), l'.length ≤ 890 → FrX 18 18 N N' → SpX N' l' w → (∀ N2, FrX 18 18 N N2 → SpX N2 (l' ++ dg10 v) w → Pq N2 g) → AW K YX6_writeNumber hX6_writeNumber (qV Pq) 4 [some (vr 18 0), some (vi v), some (vi 10)] [] N' g := by
    intro N' l' hl' hF hS hk
    unfold dg10 at hk
    refine ld_i2 iX6_writeNumber_4 ?_
    refine r_iconst iX6_writeNumber_5 ?_
    refine r_icmplt iX6_writeNumber_6 (by omega) (by omega) (fun h6 => ?_) (fun h6 => ?_)
    · exfalso; omega
    · refine ld_i1 iX6_writeNumber_9 ?_
      refine ld_i2 iX6_writeNumber_10 ?_
      refine r_icmpge iX6_writeNumber_11 (by omega) (by omega) (fun h11 => ?_) (fun h11 => ?_)
      · refine ld_a0 iX6_writeNumber_19 ?_
        refine r_bipush (by decide) iX6_writeNumber_20 ?_
        refine ld_i1 iX6_writeNumber_22 ?_
        refine ld_i2 iX6_writeNumber_23 ?_
        refine r_idiv (by omega) (by omega) (by omega) iX6_writeNumber_24 ?_
        rw [Int.tdiv_eq_ediv_of_nonneg (by omega)]
        refine r_bipush (by decide) iX6_writeNumber_25 ?_
        refine r_irem (by omega) (by omega) (by omega) iX6_writeNumber_27 ?_
        rw [Int.tmod_eq_emod_of_nonneg (by omega)]
        refine r_iadd iX6_writeNumber_28 ?_
        refine xX6_put kMX6_21 iX6_writeNumber_29 (by decide) (Nat.le_of_ble_eq_true rfl) rfl rfl ?_
        refine c_put hS (by omega) rw' (fun N2 e1 e2 => ?_)
        refine ld_i2 iX6_writeNumber_32 ?_
        refine r_bipush (by decide) iX6_writeNumber_33 ?_
        refine r_idiv (by omega) (by omega) (by omega) iX6_writeNumber_35 ?_
        refine sv_i2 (by decide) rfl iX6_writeNumber_36 ?_
        refine r_goto iX6_writeNumber_37 ?_
        first
          | (refine t1 N2 _ (by simp; omega) (hF.tr e1) e2 (fun N3 k1 k2 => hk N3 k1 ?_)
             rw [if_pos (by omega)]
             simpa [List.append_assoc, dg0] using k2)
          | (refine t1 N' _ (by omega) hF hS (fun N3 k1 k2 => hk N3 k1 ?_)
             rw [if_neg (by omega)]
             simpa using k2)
      · refine ld_i2 iX6_writeNumber_14 ?_
        refine r_iconst iX6_writeNumber_15 ?_
        refine r_icmpne iX6_writeNumber_16 (by omega) (by omega) (fun h16 => ?_) (fun h16 => ?_)
        · refine ld_i2 iX6_writeNumber_32 ?_
          refine r_bipush (by decide) iX6_writeNumber_33 ?_
          refine r_idiv (by omega) (by omega) (by omega) iX6_writeNumber_35 ?_
          refine sv_i2 (by decide) rfl iX6_writeNumber_36 ?_
          refine r_goto iX6_writeNumber_37 ?_
          first
            | (refine t1 N2 _ (by simp; omega) (hF.tr e1) e2 (fun N3 k1 k2 => hk N3 k1 ?_)
               rw [if_pos (by omega)]
               simpa [List.append_assoc, dg0] using k2)
            | (refine t1 N' _ (by omega) hF hS (fun N3 k1 k2 => hk N3 k1 ?_)
               rw [if_neg (by omega)]
               simpa using k2)
        · exfalso; omega
  have t100 : ∀ (N' : Nm) (l' : List Int), l'.length ≤ 880 → FrX 18 18 N N' → SpX N' l' w → (∀ N2, FrX 18 18 N N2 → SpX N2 (l' ++ dg100 v) w → Pq N2 g) → AW K YX6_writeNumber hX6_writeNumber (qV Pq) 4 [some (vr 18 0), some (vi v), some (vi 100)] [] N' g := by
    intro N' l' hl' hF hS hk
    unfold dg100 at hk
    refine ld_i2 iX6_writeNumber_4 ?_
    refine r_iconst iX6_writeNumber_5 ?_
    refine r_icmplt iX6_writeNumber_6 (by omega) (by omega) (fun h6 => ?_) (fun h6 => ?_)
    · exfalso; omega
    · refine ld_i1 iX6_writeNumber_9 ?_
      refine ld_i2 iX6_writeNumber_10 ?_
      refine r_icmpge iX6_writeNumber_11 (by omega) (by omega) (fun h11 => ?_) (fun h11 => ?_)
      · refine ld_a0 iX6_writeNumber_19 ?_
        refine r_bipush (by decide) iX6_writeNumber_20 ?_
        refine ld_i1 iX6_writeNumber_22 ?_
        refine ld_i2 iX6_writeNumber_23 ?_
        refine r_idiv (by omega) (by omega) (by omega) iX6_writeNumber_24 ?_
        rw [Int.tdiv_eq_ediv_of_nonneg (by omega)]
        refine r_bipush (by decide) iX6_writeNumber_25 ?_
        refine r_irem (by omega) (by omega) (by omega) iX6_writeNumber_27 ?_
        rw [Int.tmod_eq_emod_of_nonneg (by omega)]
        refine r_iadd iX6_writeNumber_28 ?_
        refine xX6_put kMX6_21 iX6_writeNumber_29 (by decide) (Nat.le_of_ble_eq_true rfl) rfl rfl ?_
        refine c_put hS (by omega) rw' (fun N2 e1 e2 => ?_)
        refine ld_i2 iX6_writeNumber_32 ?_
        refine r_bipush (by decide) iX6_writeNumber_33 ?_
        refine r_idiv (by omega) (by omega) (by omega) iX6_writeNumber_35 ?_
        refine sv_i2 (by decide) rfl iX6_writeNumber_36 ?_
        refine r_goto iX6_writeNumber_37 ?_
        first
          | (refine t10 N2 _ (by simp; omega) (hF.tr e1) e2 (fun N3 k1 k2 => hk N3 k1 ?_)
             rw [if_pos (by omega)]
             simpa [List.append_assoc, dg0] using k2)
          | (refine t10 N' _ (by omega) hF hS (fun N3 k1 k2 => hk N3 k1 ?_)
             rw [if_neg (by omega)]
             simpa using k2)
      · refine ld_i2 iX6_writeNumber_14 ?_
        refine r_iconst iX6_writeNumber_15 ?_
        refine r_icmpne iX6_writeNumber_16 (by omega) (by omega) (fun h16 => ?_) (fun h16 => ?_)
        · refine ld_i2 iX6_writeNumber_32 ?_
          refine r_bipush (by decide) iX6_writeNumber_33 ?_
          refine r_idiv (by omega) (by omega) (by omega) iX6_writeNumber_35 ?_
          refine sv_i2 (by decide) rfl iX6_writeNumber_36 ?_
          refine r_goto iX6_writeNumber_37 ?_
          first
            | (refine t10 N2 _ (by simp; omega) (hF.tr e1) e2 (fun N3 k1 k2 => hk N3 k1 ?_)
               rw [if_pos (by omega)]
               simpa [List.append_assoc, dg0] using k2)
            | (refine t10 N' _ (by omega) hF hS (fun N3 k1 k2 => hk N3 k1 ?_)
               rw [if_neg (by omega)]
               simpa using k2)
        · exfalso; omega
  have t1000 : ∀ (N' : Nm) (l' : List Int), l'.length ≤ 870 → FrX 18 18 N N' → SpX N' l' w → (∀ N2, FrX 18 18 N N2 → SpX N2 (l' ++ dg1000 v) w → Pq N2 g) → AW K YX6_writeNumber hX6_writeNumber (qV Pq) 4 [some (vr 18 0), some (vi v), some (vi 1000)] [] N' g := by
    intro N' l' hl' hF hS hk
    unfold dg1000 at hk
    refine ld_i2 iX6_writeNumber_4 ?_
    refine r_iconst iX6_writeNumber_5 ?_
    refine r_icmplt iX6_writeNumber_6 (by omega) (by omega) (fun h6 => ?_) (fun h6 => ?_)
    · exfalso; omega
    · refine ld_i1 iX6_writeNumber_9 ?_
      refine ld_i2 iX6_writeNumber_10 ?_
      refine r_icmpge iX6_writeNumber_11 (by omega) (by omega) (fun h11 => ?_) (fun h11 => ?_)
      · refine ld_a0 iX6_writeNumber_19 ?_
        refine r_bipush (by decide) iX6_writeNumber_20 ?_
        refine ld_i1 iX6_writeNumber_22 ?_
        refine ld_i2 iX6_writeNumber_23 ?_
        refine r_idiv (by omega) (by omega) (by omega) iX6_writeNumber_24 ?_
        rw [Int.tdiv_eq_ediv_of_nonneg (by omega)]
        refine r_bipush (by decide) iX6_writeNumber_25 ?_
        refine r_irem (by omega) (by omega) (by omega) iX6_writeNumber_27 ?_
        rw [Int.tmod_eq_emod_of_nonneg (by omega)]
        refine r_iadd iX6_writeNumber_28 ?_
        refine xX6_put kMX6_21 iX6_writeNumber_29 (by decide) (Nat.le_of_ble_eq_true rfl) rfl rfl ?_
        refine c_put hS (by omega) rw' (fun N2 e1 e2 => ?_)
        refine ld_i2 iX6_writeNumber_32 ?_
        refine r_bipush (by decide) iX6_writeNumber_33 ?_
        refine r_idiv (by omega) (by omega) (by omega) iX6_writeNumber_35 ?_
        refine sv_i2 (by decide) rfl iX6_writeNumber_36 ?_
        refine r_goto iX6_writeNumber_37 ?_
        first
          | (refine t100 N2 _ (by simp; omega) (hF.tr e1) e2 (fun N3 k1 k2 => hk N3 k1 ?_)
             rw [if_pos (by omega)]
             simpa [List.append_assoc, dg0] using k2)
          | (refine t100 N' _ (by omega) hF hS (fun N3 k1 k2 => hk N3 k1 ?_)
             rw [if_neg (by omega)]
             simpa using k2)
      · refine ld_i2 iX6_writeNumber_14 ?_
        refine r_iconst iX6_writeNumber_15 ?_
        refine r_icmpne iX6_writeNumber_16 (by omega) (by omega) (fun h16 => ?_) (fun h16 => ?_)
        · refine ld_i2 iX6_writeNumber_32 ?_
          refine r_bipush (by decide) iX6_writeNumber_33 ?_
          refine r_idiv (by omega) (by omega) (by omega) iX6_writeNumber_35 ?_
          refine sv_i2 (by decide) rfl iX6_writeNumber_36 ?_
          refine r_goto iX6_writeNumber_37 ?_
          first
            | (refine t100 N2 _ (by simp; omega) (hF.tr e1) e2 (fun N3 k1 k2 => hk N3 k1 ?_)
               rw [if_pos (by omega)]
               simpa [List.append_assoc, dg0] using k2)
            | (refine t100 N' _ (by omega) hF hS (fun N3 k1 k2 => hk N3 k1 ?_)
               rw [if_neg (by omega)]
               simpa using k2)
        · exfalso; omega
  refine r_sipush (by decide) iX6_writeNumber_0 ?_
  refine sv_i2 (by decide) rfl iX6_writeNumber_3 ?_
  exact t1000 N l (by omega) (FrX.rf _ _ _) hS hq
end Spell9
