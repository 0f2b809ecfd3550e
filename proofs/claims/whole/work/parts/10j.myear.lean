/-! own text: the reference's year -/
/-- the reference's months -/
def YM (N : Nm) (wg : Nat → Int) (p : Nat) : Prop := N 40 0 25 = p ∧ p ≤ 12 ∧ ∀ j, j < p → N 55 0 j = wg j ∧ 0 ≤ wg j ∧ wg j ≤ 9999
theorem YM.v {N N' : Nm} {wg : Nat → Int} {p : Nat} (h : YM N wg p) (q : FrV N N') : YM N' wg p := ⟨by rw [q 40 0 25 (by omega) (by omega)]; exact h.1, h.2.1, fun j hj => by rw [q 55 0 j (by omega) (by omega)]; exact h.2.2 j hj⟩
theorem tmod_lo (v : Int) {b : Int} (hb : 0 < b) : -b < v.tmod b := by
  have h := Int.tmod_lt_of_pos (-v) hb
  rw [Int.neg_tmod] at h
  omega
theorem tdiv_fl {v : Int} {b : Int} (hb : 0 < b) : (if v.tmod b < 0 then v.tdiv b - 1 else v.tdiv b) = v / b := by
  have e1 := Int.mul_tdiv_add_tmod v b
  have e2 := Int.mul_ediv_add_emod v b
  have l1 := Int.emod_nonneg v (show b ≠ 0 by omega)
  have l2 := Int.emod_lt_of_pos v hb
  split
  · rename_i c
    have hlt : -b < v.tmod b := tmod_lo v hb
    have : v / b = v.tdiv b - 1 := by
      have h : b * (v.tdiv b - 1) + (v.tmod b + b) = v := by rw [Int.mul_sub, Int.mul_one]; omega
      exact ((Int.ediv_emod_unique hb).mpr ⟨by rw [Int.add_comm]; exact h, by omega, by omega⟩).1
    exact this.symm
  · rename_i c
    have hlt : v.tmod b < b := Int.tmod_lt_of_pos v hb
    have : v / b = v.tdiv b := ((Int.ediv_emod_unique hb).mpr ⟨by rw [Int.add_comm]; exact e1, by omega, hlt⟩).1
    exact this.symm
section MYear
variable {K : Kx} {N : Nm} {g : Ge} {d : Dk} {wg : Nat → Int} {p : Nat}
theorem c_cutDown {v b : Int} {Pq : Int → Nm → Ge → Prop} (hv : rL v) (hb : 0 < b ∧ b ≤ 1000000) (hq : Pq (v / b) N g) : Ck K YX10_cutDown hX10_cutDown [vl v, vl b] N g (qL Pq) := by
  have e := tdiv_fl (v := v) hb.1
  have t1 : -b < v.tmod b := tmod_lo v hb.1
  have t2 : v.tmod b < b := Int.tmod_lt_of_pos v hb.1
  refine Ck.intro 2 (by decide) rfl ?_
  show AW _ _ _ _ _ [some (vl v), none, some (vl b), none, none, none] _ _ _
  refine ld_l0 iX10_cutDown_0 ?_
  refine ld_l2 iX10_cutDown_1 ?_
  refine r_ldiv (by omega) (by omega) (by omega) iX10_cutDown_2 ?_
  refine sv_l4 (by decide) rfl iX10_cutDown_3 ?_
  refine ld_l0 iX10_cutDown_5 ?_
  refine ld_l2 iX10_cutDown_6 ?_
  refine r_lrem (by omega) (by omega) (by omega) iX10_cutDown_7 ?_
  refine r_lconst (v := 0) (by decide) iX10_cutDown_8 ?_
  refine r_lcge iX10_cutDown_9 iX10_cutDown_10 (by omega) (by omega) (fun h9 => ?_) (fun h9 => ?_)
  · refine ld_l4 iX10_cutDown_20 ?_
    refine t_long rfl iX10_cutDown_22 ?_
    first
      | (rw [if_pos (by omega)] at e; rw [e]; exact hq)
      | (rw [if_neg (by omega)] at e; rw [e]; exact hq)
  · refine ld_l4 iX10_cutDown_13 ?_
    refine r_lconst (v := 1) (by decide) iX10_cutDown_15 ?_
    refine r_lsub iX10_cutDown_16 ?_
    refine r_goto iX10_cutDown_17 ?_
    refine t_long rfl iX10_cutDown_22 ?_
    first
      | (rw [if_pos (by omega)] at e; rw [e]; exact hq)
      | (rw [if_neg (by omega)] at e; rw [e]; exact hq)
theorem c_mDue {m t : Int} {Pq : Int → Nm → Ge → Prop} (hM : MS N d) (h1 : N 40 0 22 = 1) (hm : 0 ≤ m ∧ m ≤ 13) (ht : 0 ≤ t ∧ t ≤ 1000000) (hq : ∀ N', FrX 56 56 N N' → Pq (du (PD d) m t) N' g) : Ck K YX10_due hX10_due [vr 40 0, vi m, vi t] N g (qL Pq) := by
  have hW := (hM.2.2 h1).1
  refine Ck.intro 0 (by decide) rfl ?_
  show AW _ _ _ _ _ [some (vr 40 0), some (vi m), some (vi t)] _ _ _
  refine ld_i1 iX10_due_0 ?_
  refine r_ifne iX10_due_1 (by omega) (fun g1 => ?_) (fun g1 => ?_)
  · refine ld_a0 iX10_due_8 ?_
    refine r_sipush (by decide) iX10_due_9 ?_
    refine ld_i2 iX10_due_12 ?_
    refine r_bipush (by decide) iX10_due_13 ?_
    refine r_imul iX10_due_15 ?_
    refine ld_i1 iX10_due_16 ?_
    refine r_idiv (by omega) (by omega) (by omega) iX10_due_17 ?_
    rw [Int.tdiv_eq_ediv_of_nonneg (by omega)]
    have hd1 := Int.ediv_nonneg (show 0 ≤ t * 12 by omega) (show 0 ≤ m by omega)
    have hd2 := Int.ediv_le_self m (show 0 ≤ t * 12 by omega)
    refine xJ9_min_7cf53 kMX10_296 iX10_due_18 (by decide) (Nat.le_of_ble_eq_true rfl) rfl rfl ?_
    refine c_minI (by omega) (by omega) ?_
    obtain ⟨w, hw⟩ : ∃ w : Nat, min 9999 (t * 12 / m) = w := ⟨(min 9999 (t * 12 / m)).toNat, by omega⟩
    rw [hw]
    have bw : -132000000000000000 ≤ PD d w ∧ PD d w ≤ 132000000000000000 := LF_bd hW hW.2.1 (Or.inr rfl) w (by omega)
    refine xX10_keptAt kMX10_267 iX10_due_21 (by decide) (Nat.le_of_ble_eq_true rfl) rfl rfl ?_
    refine c_mKept hM h1 (by omega) (fun N2 e1 => ?_)
    rw [← PD_eq]
    refine ld_i1 iX10_due_24 ?_
    refine r_i2l (by omega) iX10_due_25 ?_
    refine r_lmul iX10_due_26 ?_
    refine r_ldc2 (z := 12) kKX10_299 (by decide) iX10_due_27 ?_
    refine xX10_cutDown kMX10_301 iX10_due_30 (by decide) (Nat.le_of_ble_eq_true rfl) rfl rfl ?_
    have h3 := km_bd (k := (w : Int) * 1000000000 - PD d w) (B := 500010000000000000) hm (by omega) (by omega)
    refine c_cutDown (by omega) (by omega) ?_
    refine t_long rfl iX10_due_33 ?_
    first
      | (have y := hq N (FrX.rf _ _ _); unfold du at y; rw [if_pos (by omega)] at y; exact y)
      | (have y := hq N2 e1; unfold du at y; rw [if_neg (by omega), hw] at y; exact y)
  · refine r_lconst (v := 0) (by decide) iX10_due_4 ?_
    refine r_goto iX10_due_5 ?_
    refine t_long rfl iX10_due_33 ?_
    first
      | (have y := hq N (FrX.rf _ _ _); unfold du at y; rw [if_pos (by omega)] at y; exact y)
      | (have y := hq N2 e1; unfold du at y; rw [if_neg (by omega), hw] at y; exact y)
theorem c_mWagesOf {n : Nat} {Pq : Int → Nm → Ge → Prop} (hY : YM N wg p) (hn : n ≤ p) (hq : Pq (sW wg n) N g) : Ck K YX10_wagesOf hX10_wagesOf [vr 40 0, vi n] N g (qI Pq) := by
  obtain ⟨y1, y2, y3⟩ := hY
  refine Ck.intro 2 (by decide) rfl ?_
  show AW _ _ _ _ _ [some (vr 40 0), some (vi n), none, none] _ _ _
  have loop : ∀ (k q : Nat) (a c : Int), n - q = k → q ≤ n → c = q → a = sW wg q → AW K YX10_wagesOf hX10_wagesOf (qI Pq) 4 [some (vr 40 0), some (vi n), some (vi a), some (vi c)] [] N g := by
    intro k
    induction k using Nat.strongRecOn with
    | _ k ih =>
      intro q a c e h1 h2 h3
      subst h2
      refine ld_i3 iX10_wagesOf_4 ?_
      refine ld_i1 iX10_wagesOf_5 ?_
      refine r_icmpge iX10_wagesOf_6 (by omega) (by omega) (fun h6 => ?_) (fun h6 => ?_)
      · refine ld_i2 iX10_wagesOf_24 ?_
        refine t_int rfl iX10_wagesOf_25 ?_
        have e : q = n := by omega
        rw [h3, e]; exact hq
      · refine ld_i2 iX10_wagesOf_9 ?_
        refine ld_a0 iX10_wagesOf_10 ?_
        refine gf_X10_wage kFX10_52 iX10_wagesOf_11 ?_
        refine ld_i3 iX10_wagesOf_14 ?_
        refine al_55 rfl (by omega) iX10_wagesOf_15 ?_
        rw [(y3 q (by omega)).1]
        refine r_iadd iX10_wagesOf_16 ?_
        refine sv_i2 (by decide) rfl iX10_wagesOf_17 ?_
        refine inc_3 (by decide) rfl iX10_wagesOf_18 ?_
        refine r_goto iX10_wagesOf_21 ?_
        exact ih (n - (q + 1)) (by omega) (q + 1) _ _ rfl (by omega) (by omega) (by rw [sW, h3])
  refine r_iconst iX10_wagesOf_0 ?_
  refine sv_i2 (by decide) rfl iX10_wagesOf_1 ?_
  refine r_iconst iX10_wagesOf_2 ?_
  refine sv_i3 (by decide) rfl iX10_wagesOf_3 ?_
  exact loop n 0 _ _ (by omega) (by omega) (by omega) rfl
theorem c_dueBehind {n : Nat} {Pq : Int → Nm → Ge → Prop} (hM : MS N d) (h1 : N 40 0 22 = 1) (hY : YM N wg p) (hn : n ≤ p) (hq : ∀ N', FrX 56 56 N N' → Pq (du (PD d) n (sW wg n)) N' g) : Ck K YX10_dueBehind hX10_dueBehind [vr 40 0, vi n] N g (qL Pq) := by
  have y2 := hY.2.1
  have b0 := sW_bd n (fun j hj => (hY.2.2 j (by omega)).2)
  refine Ck.intro 0 (by decide) rfl ?_
  show AW _ _ _ _ _ [some (vr 40 0), some (vi n)] _ _ _
  refine ld_a0 iX10_dueBehind_0 ?_
  refine ld_i1 iX10_dueBehind_1 ?_
  refine ld_a0 iX10_dueBehind_2 ?_
  refine ld_i1 iX10_dueBehind_3 ?_
  refine xX10_wagesOf kMX10_304 iX10_dueBehind_4 (by decide) (Nat.le_of_ble_eq_true rfl) rfl rfl ?_
  refine c_mWagesOf hY hn ?_
  refine xX10_due kMX10_307 iX10_dueBehind_7 (by decide) (Nat.le_of_ble_eq_true rfl) rfl rfl ?_
  refine c_mDue hM h1 (by omega) (by omega) (fun N2 e1 => ?_)
  refine t_long rfl iX10_dueBehind_10 ?_
  exact hq N2 e1
theorem c_mPaidIn {k : Nat} {Pq : Int → Nm → Ge → Prop} (hM : MS N d) (h1 : N 40 0 22 = 1) (hY : YM N wg p) (hk : k < p) (hq : ∀ N', FrX 56 56 N N' → Pq (pIn (PD d) wg k) N' g) : Ck K YX10_paidIn hX10_paidIn [vr 40 0, vi k] N g (qL Pq) := by
  have y2 := hY.2.1
  have y3 := hY.2.2 k hk
  refine Ck.intro 0 (by decide) rfl ?_
  show AW _ _ _ _ _ [some (vr 40 0), some (vi k)] _ _ _
  refine ld_a0 iX10_paidIn_0 ?_
  refine gf_X10_wage kFX10_52 iX10_paidIn_1 ?_
  refine ld_i1 iX10_paidIn_4 ?_
  refine al_55 rfl (by omega) iX10_paidIn_5 ?_
  rw [y3.1]
  refine r_i2l (by omega) iX10_paidIn_6 ?_
  refine r_ldc2 (z := 1000000000) kKX10_178 (by decide) iX10_paidIn_7 ?_
  refine r_lmul iX10_paidIn_10 ?_
  refine ld_a0 iX10_paidIn_11 ?_
  refine ld_i1 iX10_paidIn_12 ?_
  refine r_iconst iX10_paidIn_13 ?_
  refine r_iadd iX10_paidIn_14 ?_
  rw [show (k : Int) + 1 = ((k + 1 : Nat) : Int) by omega]
  refine xX10_dueBehind kMX10_310 iX10_paidIn_15 (by decide) (Nat.le_of_ble_eq_true rfl) rfl rfl ?_
  refine c_dueBehind hM h1 hY (by omega) (fun N2 e1 => ?_)
  have hF : FrV N N2 := e1.v (by omega) (by omega)
  refine ld_a0 iX10_paidIn_18 ?_
  refine ld_i1 iX10_paidIn_19 ?_
  refine xX10_dueBehind kMX10_310 iX10_paidIn_20 (by decide) (Nat.le_of_ble_eq_true rfl) rfl rfl ?_
  refine c_dueBehind (hM.v hF) (by rw [hF 40 0 22 (by omega) (by omega)]; exact h1) (hY.v hF) (by omega) (fun N3 e2 => ?_)
  refine r_lsub iX10_paidIn_23 ?_
  refine r_lsub iX10_paidIn_24 ?_
  refine t_long rfl iX10_paidIn_25 ?_
  exact hq N3 (e1.tr e2)
end MYear
