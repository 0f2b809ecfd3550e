/-! own text: a rule is spelt -/
def gt' (l : List Int) (w : Int) : Int := if 0 ≤ w then (l[w.toNat]?).getD (-1) else -1
def SpX (N : Nm) (l : List Int) (w : Int) : Prop := N 18 0 0 = (l.length : Int) ∧ N 18 0 1 = w ∧ N 18 0 2 = gt' l w
theorem gt_app {l : List Int} {c w : Int} : gt' (l ++ [c]) w = if (l.length : Int) = w then c else gt' l w := by
  unfold gt'
  by_cases h0 : 0 ≤ w
  · rw [if_pos h0, if_pos h0]
    by_cases e : (l.length : Int) = w
    · rw [if_pos e, show w.toNat = l.length by omega]; simp
    · rw [if_neg e]
      rcases Nat.lt_or_ge w.toNat l.length with q | q
      · rw [List.getElem?_append_left q]
      · rw [List.getElem?_eq_none (by simp; omega), List.getElem?_eq_none q]
  · rw [if_neg h0, if_neg h0, if_neg (by omega)]
/-- the digits of a number -/
def dg (v : Int) : List Int := (if 1000 ≤ v then [48 + v / 1000 % 10] else []) ++ ((if 100 ≤ v then [48 + v / 100 % 10] else []) ++ ((if 10 ≤ v then [48 + v / 10 % 10] else []) ++ [48 + v % 10]))
section Spell9
variable {K : Kx} {N : Nm} {g : Ge} {l : List Int} {w : Int}
theorem c_put {c : Int} {Pq : Nm → Ge → Prop} (hS : SpX N l w) (hl : l.length ≤ 1000) (rw' : rI w) (hq : ∀ N', FrX 18 18 N N' → SpX N' (l ++ [c]) w → Pq N' g) : Ck K YX6_put hX6_put [vr 18 0, vi c] N g (qV Pq) := by
  obtain ⟨s1, s2, s3⟩ := hS
  refine Ck.intro 0 (by decide) rfl ?_
  show AW _ _ _ _ _ [some (vr 18 0), some (vi c)] _ _ _
  refine ld_a0 iX6_put_0 ?_
  refine gf_X6_written kFX6_9 iX6_put_1 ?_
  rw [s1]
  refine ld_a0 iX6_put_4 ?_
  refine gf_X6_wanted kFX6_15 iX6_put_5 ?_
  rw [s2]
  refine r_icmpne iX6_put_8 (by omega) (by omega) (fun h8 => ?_) (fun h8 => ?_)
  · refine ld_a0 iX6_put_16 ?_
    refine r_dup rfl iX6_put_17 ?_
    refine gf_X6_written kFX6_9 iX6_put_18 ?_
    first | rw [s1] | rw [upN_j (by decide), s1]
    refine r_iconst iX6_put_21 ?_
    refine r_iadd iX6_put_22 ?_
    refine pf_X6_written kFX6_9 iX6_put_23 ?_
    refine t_void rfl iX6_put_26 ?_
    first
      | (refine hq _ ((FrX.rf _ _ N).up (by omega)) ⟨?_, ?_, ?_⟩
         · rw [upN_eq]; simp
         · rw [upN_j (by decide)]; exact s2
         · rw [upN_j (by decide), s3, gt_app, if_neg (by omega)])
      | (refine hq _ (((FrX.rf _ _ N).up (by omega)).up (by omega)) ⟨?_, ?_, ?_⟩
         · rw [upN_eq]; simp
         · rw [upN_j (by decide), upN_j (by decide)]; exact s2
         · rw [upN_j (by decide), upN_eq, gt_app, if_pos (by omega)])
  · refine ld_a0 iX6_put_11 ?_
    refine ld_i1 iX6_put_12 ?_
    refine pf_X6_found kFX6_18 iX6_put_13 ?_
    refine ld_a0 iX6_put_16 ?_
    refine r_dup rfl iX6_put_17 ?_
    refine gf_X6_written kFX6_9 iX6_put_18 ?_
    first | rw [s1] | rw [upN_j (by decide), s1]
    refine r_iconst iX6_put_21 ?_
    refine r_iadd iX6_put_22 ?_
    refine pf_X6_written kFX6_9 iX6_put_23 ?_
    refine t_void rfl iX6_put_26 ?_
    first
      | (refine hq _ ((FrX.rf _ _ N).up (by omega)) ⟨?_, ?_, ?_⟩
         · rw [upN_eq]; simp
         · rw [upN_j (by decide)]; exact s2
         · rw [upN_j (by decide), s3, gt_app, if_neg (by omega)])
      | (refine hq _ (((FrX.rf _ _ N).up (by omega)).up (by omega)) ⟨?_, ?_, ?_⟩
         · rw [upN_eq]; simp
         · rw [upN_j (by decide), upN_j (by decide)]; exact s2
         · rw [upN_j (by decide), upN_eq, gt_app, if_pos (by omega)])
end Spell9
