/-! own text: the JDK's Math over this logic -/
section Jdk
variable {K : Kx} {N : Nm} {g : Ge}
theorem pz {P : Int → Nm → Ge → Prop} {a b : Int} (h : P a N g) (e : b = a) : P b N g := e ▸ h
theorem c_maxI {a b : Int} {P : Int → Nm → Ge → Prop} (ha : rI a) (hb : rI b) (hq : P (max a b) N g) : Ck K YJ9_max_7cf53 hJ9_max_7cf53 [vi a, vi b] N g (qI P) := by
  refine Ck.introF 0 (by decide +kernel) rfl ?_
  show AW _ _ _ _ _ [some (vi a), some (vi b)] _ _ _
  refine ld_i0 iJ9_max_7cf53_0 ?_
  refine ld_i1 iJ9_max_7cf53_1 ?_
  refine r_icmplt iJ9_max_7cf53_2 (by omega) (by omega) (fun h2 => ?_) (fun h2 => ?_)
  · refine ld_i1 iJ9_max_7cf53_9 ?_
    refine t_int rfl iJ9_max_7cf53_10 ?_
    exact pz hq (by omega)
  · refine ld_i0 iJ9_max_7cf53_5 ?_
    refine r_goto iJ9_max_7cf53_6 ?_
    refine t_int rfl iJ9_max_7cf53_10 ?_
    exact pz hq (by omega)
theorem c_minI {a b : Int} {P : Int → Nm → Ge → Prop} (ha : rI a) (hb : rI b) (hq : P (min a b) N g) : Ck K YJ9_min_7cf53 hJ9_min_7cf53 [vi a, vi b] N g (qI P) := by
  refine Ck.introF 0 (by decide +kernel) rfl ?_
  show AW _ _ _ _ _ [some (vi a), some (vi b)] _ _ _
  refine ld_i0 iJ9_min_7cf53_0 ?_
  refine ld_i1 iJ9_min_7cf53_1 ?_
  refine r_icmpgt iJ9_min_7cf53_2 (by omega) (by omega) (fun h2 => ?_) (fun h2 => ?_)
  · refine ld_i1 iJ9_min_7cf53_9 ?_
    refine t_int rfl iJ9_min_7cf53_10 ?_
    exact pz hq (by omega)
  · refine ld_i0 iJ9_min_7cf53_5 ?_
    refine r_goto iJ9_min_7cf53_6 ?_
    refine t_int rfl iJ9_min_7cf53_10 ?_
    exact pz hq (by omega)
theorem c_maxL {a b : Int} {P : Int → Nm → Ge → Prop} (ha : rL a) (hb : rL b) (hq : P (max a b) N g) : Ck K YJ9_max_f86c9 hJ9_max_f86c9 [vl a, vl b] N g (qL P) := by
  refine Ck.introF 0 (by decide +kernel) rfl ?_
  show AW _ _ _ _ _ [some (vl a), none, some (vl b), none] _ _ _
  refine ld_l0 iJ9_max_f86c9_0 ?_
  refine ld_l2 iJ9_max_f86c9_1 ?_
  refine r_lclt iJ9_max_f86c9_2 iJ9_max_f86c9_3 (by omega) (by omega) (fun h2 => ?_) (fun h2 => ?_)
  · refine ld_l2 iJ9_max_f86c9_10 ?_
    refine t_long rfl iJ9_max_f86c9_11 ?_
    exact pz hq (by omega)
  · refine ld_l0 iJ9_max_f86c9_6 ?_
    refine r_goto iJ9_max_f86c9_7 ?_
    refine t_long rfl iJ9_max_f86c9_11 ?_
    exact pz hq (by omega)
theorem c_minL {a b : Int} {P : Int → Nm → Ge → Prop} (ha : rL a) (hb : rL b) (hq : P (min a b) N g) : Ck K YJ9_min_f86c9 hJ9_min_f86c9 [vl a, vl b] N g (qL P) := by
  refine Ck.introF 0 (by decide +kernel) rfl ?_
  show AW _ _ _ _ _ [some (vl a), none, some (vl b), none] _ _ _
  refine ld_l0 iJ9_min_f86c9_0 ?_
  refine ld_l2 iJ9_min_f86c9_1 ?_
  refine r_lcgt iJ9_min_f86c9_2 iJ9_min_f86c9_3 (by omega) (by omega) (fun h2 => ?_) (fun h2 => ?_)
  · refine ld_l2 iJ9_min_f86c9_10 ?_
    refine t_long rfl iJ9_min_f86c9_11 ?_
    exact pz hq (by omega)
  · refine ld_l0 iJ9_min_f86c9_6 ?_
    refine r_goto iJ9_min_f86c9_7 ?_
    refine t_long rfl iJ9_min_f86c9_11 ?_
    exact pz hq (by omega)
theorem c_absL {a : Int} {P : Int → Nm → Ge → Prop} (ha : rL a) (hq : P ((a.natAbs : Nat) : Int) N g) : Ck K YJ9_abs_067f4 hJ9_abs_067f4 [vl a] N g (qL P) := by
  refine Ck.introF 0 (by decide +kernel) rfl ?_
  show AW _ _ _ _ _ [some (vl a), none] _ _ _
  refine ld_l0 iJ9_abs_067f4_0 ?_
  refine r_lconst (v := 0) (by decide) iJ9_abs_067f4_1 ?_
  refine r_lcge iJ9_abs_067f4_2 iJ9_abs_067f4_3 (by omega) (by omega) (fun h2 => ?_) (fun h2 => ?_)
  · refine ld_l0 iJ9_abs_067f4_11 ?_
    refine t_long rfl iJ9_abs_067f4_12 ?_
    exact pz hq (by omega)
  · refine ld_l0 iJ9_abs_067f4_6 ?_
    refine r_lneg iJ9_abs_067f4_7 ?_
    refine r_goto iJ9_abs_067f4_8 ?_
    refine t_long rfl iJ9_abs_067f4_12 ?_
    exact pz hq (by omega)
end Jdk
