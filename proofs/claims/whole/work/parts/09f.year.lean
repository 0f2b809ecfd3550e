/-! own text: the year -/
def sW (wg : Nat → Int) : Nat → Int
  | 0 => 0
  | n + 1 => sW wg n + wg n
/-- what is due behind m months whose wages are t -/
def du (F : Nat → Int) (m t : Int) : Int := if m < 1 then 0 else (min 9999 (t * 12 / m) * 1000000000 - F (min 9999 (t * 12 / m)).toNat) * m / 12
def pIn (F : Nat → Int) (wg : Nat → Int) (i : Nat) : Int := wg i * 1000000000 - (du F (i + 1) (sW wg (i + 1)) - du F i (sW wg i))
def YI (N : Nm) (wg : Nat → Int) (p : Nat) : Prop := N 16 0 1 = p ∧ p ≤ 12 ∧ ∀ j, j < p → N 17 0 j = wg j ∧ 0 ≤ wg j ∧ wg j ≤ 9999
theorem YI.sr {N N' : Nm} {wg : Nat → Int} {p : Nat} (h : YI N wg p) (q : Sr N N') : YI N' wg p := ⟨by rw [q.1 16 0 1 (by omega)]; exact h.1, h.2.1, fun j hj => by rw [q.1 17 0 j (by omega)]; exact h.2.2 j hj⟩
theorem YI.frq {N N' : Nm} {wg : Nat → Int} {p : Nat} (h : YI N wg p) (q : FrQ N N') : YI N' wg p := ⟨by rw [q 16 0 1 (by omega) (by omega)]; exact h.1, h.2.1, fun j hj => by rw [q 17 0 j (by omega) (by omega)]; exact h.2.2 j hj⟩
theorem sW_bd {wg : Nat → Int} : ∀ n, (∀ j, j < n → 0 ≤ wg j ∧ wg j ≤ 9999) → 0 ≤ sW wg n ∧ sW wg n ≤ 9999 * n
  | 0, _ => by simp [sW]
  | n + 1, h => by
    have ih := sW_bd n (fun j hj => h j (by omega))
    have := h n (by omega)
    rw [sW]; omega
theorem dw_bd {m t : Int} (hm : 1 ≤ m) (ht : 0 ≤ t) : 0 ≤ min 9999 (t * 12 / m) ∧ min 9999 (t * 12 / m) ≤ 9999 := by
  have := Int.ediv_nonneg (show 0 ≤ t * 12 by omega) (show 0 ≤ m by omega)
  omega
theorem km_bd {k m B : Int} (hm : 0 ≤ m ∧ m ≤ 13) (hB : 0 ≤ B) (hk : -B ≤ k ∧ k ≤ B) : -(B * 13) ≤ k * m ∧ k * m ≤ B * 13 := by
  have a1 := mul_mono hk.2 hm.1
  have a2 := mul_mono hk.1 hm.1
  have a3 := Int.mul_le_mul_of_nonneg_left hm.2 hB
  rw [Int.neg_mul] at a2
  omega
theorem du_bd {F : Nat → Int} (hF : ∀ w, w < 10000 → bF (F w)) {m t : Int} (hm : 0 ≤ m ∧ m ≤ 13) (ht : 0 ≤ t) : -600000000000000000 ≤ du F m t ∧ du F m t ≤ 600000000000000000 := by
  unfold du
  by_cases e : m < 1
  · rw [if_pos e]; omega
  · rw [if_neg e]
    have h1 := dw_bd (show 1 ≤ m by omega) ht
    have h2 := hF (min 9999 (t * 12 / m)).toNat (by omega)
    generalize min 9999 (t * 12 / m) = w at h1 h2 ⊢
    have h3 := km_bd (k := w * 1000000000 - F w.toNat) (B := 500010000000000000) hm (by omega) (by omega)
    omega
theorem pIn_bd {F : Nat → Int} (hF : ∀ w, w < 10000 → bF (F w)) {wg : Nat → Int} {i : Nat} (hi : i < 12) (hw : ∀ j, j < i + 1 → 0 ≤ wg j ∧ wg j ≤ 9999) : -2000000000000000000 ≤ pIn F wg i ∧ pIn F wg i ≤ 2000000000000000000 := by
  have h1 := sW_bd (i + 1) hw
  have h2 := sW_bd i (fun j hj => hw j (by omega))
  have h3 := du_bd hF (m := i + 1) (t := sW wg (i + 1)) (by omega) h1.1
  have h4 := du_bd hF (m := i) (t := sW wg i) (by omega) h2.1
  have h5 := hw i (by omega)
  unfold pIn
  omega
section Year9
variable {K : Kx} {N : Nm} {g : Ge} {i : Nat} {F : Nat → Int} {P : Nat} {s : Nat → Nat} {G : Nat → Int} {wg : Nat → Int} {p : Nat}
theorem c_isFull {Pq : Int → Nm → Ge → Prop} (hY : YI N wg p) (hq : Pq (tf (p = 12)) N g) : Ck K YX8_isFull hX8_isFull [vr 16 0] N g (qI Pq) := by
  obtain ⟨y1, y2, y3⟩ := hY
  refine Ck.intro 0 (by decide) rfl ?_
  show AW _ _ _ _ _ [some (vr 16 0)] _ _ _
  unfold tf at hq
  have tl : ∀ z : Int, z = (if p = 12 then 1 else 0) → AW K YX8_isFull hX8_isFull (qI Pq) 14 [some (vr 16 0)] [vi z] N g := by
    intro z hz
    rw [← hz] at hq
    have hz2 : z = 0 ∨ z = 1 := by rw [hz]; split <;> omega
    refine t_bool rfl (by omega) iX8_isFull_14 ?_
    exact hq
  refine ld_a0 iX8_isFull_0 ?_
  refine gf_X8_passed kFX8_15 iX8_isFull_1 ?_
  rw [y1]
  refine r_bipush (by decide) iX8_isFull_4 ?_
  refine r_icmplt iX8_isFull_6 (by omega) (by omega) (fun h6 => ?_) (fun h6 => ?_)
  · refine r_iconst iX8_isFull_13 ?_
    refine tl _ ?_
    first
      | rw [if_pos (by omega)]
      | rw [if_neg (by omega)]
  · refine r_iconst iX8_isFull_9 ?_
    refine r_goto iX8_isFull_10 ?_
    refine tl _ ?_
    first
      | rw [if_pos (by omega)]
      | rw [if_neg (by omega)]
theorem c_yWagesOf {n : Nat} {Pq : Int → Nm → Ge → Prop} (hY : YI N wg p) (hn : n ≤ p) (hq : Pq (sW wg n) N g) : Ck K YX8_wagesOf hX8_wagesOf [vr 16 0, vi n] N g (qI Pq) := by
  obtain ⟨y1, y2, y3⟩ := hY
  refine Ck.intro 2 (by decide) rfl ?_
  show AW _ _ _ _ _ [some (vr 16 0), some (vi n), none, none] _ _ _
  have loop : ∀ (k q : Nat) (a c : Int), n - q = k → q ≤ n → c = q → a = sW wg q → AW K YX8_wagesOf hX8_wagesOf (qI Pq) 4 [some (vr 16 0), some (vi n), some (vi a), some (vi c)] [] N g := by
    intro k
    induction k using Nat.strongRecOn with
    | _ k ih =>
      intro q a c e h1 h2 h3
      subst h2
      refine ld_i3 iX8_wagesOf_4 ?_
      refine ld_i1 iX8_wagesOf_5 ?_
      refine r_icmpge iX8_wagesOf_6 (by omega) (by omega) (fun h6 => ?_) (fun h6 => ?_)
      · refine ld_i2 iX8_wagesOf_24 ?_
        refine t_int rfl iX8_wagesOf_25 ?_
        have e : q = n := by omega
        rw [h3, e]; exact hq
      · refine ld_i2 iX8_wagesOf_9 ?_
        refine ld_a0 iX8_wagesOf_10 ?_
        refine gf_X8_wages kFX8_9 iX8_wagesOf_11 ?_
        refine ld_i3 iX8_wagesOf_14 ?_
        refine al_17 rfl (by omega) iX8_wagesOf_15 ?_
        rw [(y3 q (by omega)).1]
        refine r_iadd iX8_wagesOf_16 ?_
        refine sv_i2 (by decide) rfl iX8_wagesOf_17 ?_
        refine inc_3 (by decide) rfl iX8_wagesOf_18 ?_
        refine r_goto iX8_wagesOf_21 ?_
        exact ih (n - (q + 1)) (by omega) (q + 1) _ _ rfl (by omega) (by omega) (by rw [sW, h3])
  refine r_iconst iX8_wagesOf_0 ?_
  refine sv_i2 (by decide) rfl iX8_wagesOf_1 ?_
  refine r_iconst iX8_wagesOf_2 ?_
  refine sv_i3 (by decide) rfl iX8_wagesOf_3 ?_
  exact loop n 0 _ _ (by omega) (by omega) (by omega) rfl
theorem c_yDue {m t : Int} {Pq : Int → Nm → Ge → Prop} (hL : Ln N g i F P s G) (hm : 0 ≤ m ∧ m ≤ 13) (ht : 0 ≤ t ∧ t ≤ 1000000) (hq : ∀ N', Sr N N' → Pq (du F m t) N' g) : Ck K YX8_due hX8_due [vr 12 i, vi m, vi t] N g (qL Pq) := by
  refine Ck.intro 3 (by decide) rfl ?_
  show AW _ _ _ _ _ [some (vr 12 i), some (vi m), some (vi t), none, none, none] _ _ _
  refine ld_i1 iX8_due_0 ?_
  refine r_iconst iX8_due_1 ?_
  refine r_icmpge iX8_due_2 (by omega) (by omega) (fun h2 => ?_) (fun h2 => ?_)
  · refine r_sipush (by decide) iX8_due_7 ?_
    refine ld_i2 iX8_due_10 ?_
    refine r_bipush (by decide) iX8_due_11 ?_
    refine r_imul iX8_due_13 ?_
    refine ld_i1 iX8_due_14 ?_
    refine r_idiv (by omega) (by omega) (by omega) iX8_due_15 ?_
    rw [Int.tdiv_eq_ediv_of_nonneg (by omega)]
    have hd1 := Int.ediv_nonneg (show 0 ≤ t * 12 by omega) (show 0 ≤ m by omega)
    have hd2 := Int.ediv_le_self m (show 0 ≤ t * 12 by omega)
    refine xJ9_min_7cf53 kMX8_19 iX8_due_16 (by decide) (Nat.le_of_ble_eq_true rfl) rfl rfl ?_
    refine c_minI (by omega) (by omega) ?_
    obtain ⟨w, hw⟩ : ∃ w : Nat, min 9999 (t * 12 / m) = w := ⟨(min 9999 (t * 12 / m)).toNat, by omega⟩
    rw [hw]
    have bw := hL.2.2.2.2.1 w (by omega)
    refine sv_i3 (by decide) rfl iX8_due_19 ?_
    refine ld_i3 iX8_due_20 ?_
    refine r_i2l (by omega) iX8_due_21 ?_
    refine r_ldc2 (z := 1000000000) kKX8_25 (by decide) iX8_due_22 ?_
    refine r_lmul iX8_due_25 ?_
    refine ld_a0 iX8_due_26 ?_
    refine ld_i3 iX8_due_27 ?_
    refine xX1_valueAt kMX8_27 iX8_due_28 (by decide) (Nat.le_of_ble_eq_true rfl) rfl rfl ?_
    refine c_valueAt hL (by omega) (fun N2 e1 => ?_)
    refine r_lsub iX8_due_31 ?_
    refine sv_l4 (by decide) rfl iX8_due_32 ?_
    refine ld_l4 iX8_due_34 ?_
    refine ld_i1 iX8_due_36 ?_
    refine r_i2l (by omega) iX8_due_37 ?_
    refine r_lmul iX8_due_38 ?_
    refine r_ldc2 (z := 12) kKX8_33 (by decide) iX8_due_39 ?_
    refine xJ9_floorDiv_f86c9 kMX8_35 iX8_due_42 (by decide) (Nat.le_of_ble_eq_true rfl) rfl rfl ?_
    have h3 := km_bd (k := (w : Int) * 1000000000 - F w) (B := 500010000000000000) hm (by omega) (by omega)
    refine c_floorDiv (by omega) (by omega) ?_
    refine t_long rfl iX8_due_45 ?_
    have y := hq N2 e1
    unfold du at y
    rw [if_neg (by omega), hw] at y
    exact y
  · refine r_lconst (v := 0) (by decide) iX8_due_5 ?_
    refine t_long rfl iX8_due_6 ?_
    have y := hq N (Sr.rf N); unfold du at y; rw [if_pos (by omega)] at y; exact y
theorem c_yPaidOf {m t : Int} {Pq : Int → Nm → Ge → Prop} (hL : Ln N g i F P s G) (hm : 0 ≤ m ∧ m ≤ 13) (ht : 0 ≤ t ∧ t ≤ 1000000) (hq : ∀ N', Sr N N' → Pq (t * 1000000000 - du F m t) N' g) : Ck K YX8_paidOf hX8_paidOf [vr 12 i, vi m, vi t] N g (qL Pq) := by
  refine Ck.intro 0 (by decide) rfl ?_
  show AW _ _ _ _ _ [some (vr 12 i), some (vi m), some (vi t)] _ _ _
  refine ld_i2 iX8_paidOf_0 ?_
  refine r_i2l (by omega) iX8_paidOf_1 ?_
  refine r_ldc2 (z := 1000000000) kKX8_25 (by decide) iX8_paidOf_2 ?_
  refine r_lmul iX8_paidOf_5 ?_
  refine ld_a0 iX8_paidOf_6 ?_
  refine ld_i1 iX8_paidOf_7 ?_
  refine ld_i2 iX8_paidOf_8 ?_
  refine xX8_due kMX8_39 iX8_paidOf_9 (by decide) (Nat.le_of_ble_eq_true rfl) rfl rfl ?_
  refine c_yDue hL hm ht (fun N2 e1 => ?_)
  refine r_lsub iX8_paidOf_12 ?_
  refine t_long rfl iX8_paidOf_13 ?_
  exact hq N2 e1
theorem c_yPaidIn {k : Nat} {Pq : Int → Nm → Ge → Prop} (hL : Ln N g i F P s G) (hY : YI N wg p) (hk : k < p) (hq : ∀ N', Sr N N' → Pq (pIn F wg k) N' g) : Ck K YX8_paidIn hX8_paidIn [vr 16 0, vr 12 i, vi k] N g (qL Pq) := by
  have y2 := hY.2.1
  have y3 := hY.2.2 k hk
  have b1 := sW_bd (k + 1) (fun j hj => (hY.2.2 j (by omega)).2)
  have b0 := sW_bd k (fun j hj => (hY.2.2 j (by omega)).2)
  refine Ck.intro 1 (by decide) rfl ?_
  show AW _ _ _ _ _ [some (vr 16 0), some (vr 12 i), some (vi k), none] _ _ _
  refine ld_a0 iX8_paidIn_0 ?_
  refine ld_i2 iX8_paidIn_1 ?_
  refine xX8_wagesOf kMX8_43 iX8_paidIn_2 (by decide) (Nat.le_of_ble_eq_true rfl) rfl rfl ?_
  refine c_yWagesOf hY (by omega) ?_
  refine sv_i3 (by decide) rfl iX8_paidIn_5 ?_
  refine ld_a0 iX8_paidIn_6 ?_
  refine gf_X8_wages kFX8_9 iX8_paidIn_7 ?_
  refine ld_i2 iX8_paidIn_10 ?_
  refine al_17 rfl (by omega) iX8_paidIn_11 ?_
  rw [y3.1]
  refine r_i2l (by omega) iX8_paidIn_12 ?_
  refine r_ldc2 (z := 1000000000) kKX8_25 (by decide) iX8_paidIn_13 ?_
  refine r_lmul iX8_paidIn_16 ?_
  refine ld_a1 iX8_paidIn_17 ?_
  refine ld_i2 iX8_paidIn_18 ?_
  refine r_iconst iX8_paidIn_19 ?_
  refine r_iadd iX8_paidIn_20 ?_
  refine ld_i3 iX8_paidIn_21 ?_
  refine ld_a0 iX8_paidIn_22 ?_
  refine gf_X8_wages kFX8_9 iX8_paidIn_23 ?_
  refine ld_i2 iX8_paidIn_26 ?_
  refine al_17 rfl (by omega) iX8_paidIn_27 ?_
  rw [y3.1]
  refine r_iadd iX8_paidIn_28 ?_
  rw [show sW wg k + wg k = sW wg (k + 1) from rfl]
  refine xX8_due kMX8_39 iX8_paidIn_29 (by decide) (Nat.le_of_ble_eq_true rfl) rfl rfl ?_
  refine c_yDue hL (by omega) (by omega) (fun N2 e1 => ?_)
  refine ld_a1 iX8_paidIn_32 ?_
  refine ld_i2 iX8_paidIn_33 ?_
  refine ld_i3 iX8_paidIn_34 ?_
  refine xX8_due kMX8_39 iX8_paidIn_35 (by decide) (Nat.le_of_ble_eq_true rfl) rfl rfl ?_
  refine c_yDue (hL.sr e1) (by omega) (by omega) (fun N3 e2 => ?_)
  refine r_lsub iX8_paidIn_38 ?_
  refine r_lsub iX8_paidIn_39 ?_
  refine t_long rfl iX8_paidIn_40 ?_
  exact hq N3 (e1.tr e2)
theorem c_yPaidBehind {k : Nat} {w : Int} {Pq : Int → Nm → Ge → Prop} (hL : Ln N g i F P s G) (hY : YI N wg p) (hk : k < p) (hp : p < 12) (hw : 0 ≤ w ∧ w ≤ 9999) (hq : ∀ N', Sr N N' → Pq (wg k * 1000000000 - (du F (k + 2) (sW wg k + w + wg k) - du F (k + 1) (sW wg k + w))) N' g) : Ck K YX8_paidBehind hX8_paidBehind [vr 16 0, vr 12 i, vi k, vi w] N g (qL Pq) := by
  have y2 := hY.2.1
  have y3 := hY.2.2 k hk
  have b0 := sW_bd k (fun j hj => (hY.2.2 j (by omega)).2)
  refine Ck.intro 1 (by decide) rfl ?_
  show AW _ _ _ _ _ [some (vr 16 0), some (vr 12 i), some (vi k), some (vi w), none] _ _ _
  refine ld_a0 iX8_paidBehind_0 ?_
  refine ld_i2 iX8_paidBehind_1 ?_
  refine xX8_wagesOf kMX8_43 iX8_paidBehind_2 (by decide) (Nat.le_of_ble_eq_true rfl) rfl rfl ?_
  refine c_yWagesOf hY (by omega) ?_
  refine ld_i3 iX8_paidBehind_5 ?_
  refine r_iadd iX8_paidBehind_6 ?_
  refine sv_i4 (by decide) rfl iX8_paidBehind_7 ?_
  refine ld_a0 iX8_paidBehind_9 ?_
  refine gf_X8_wages kFX8_9 iX8_paidBehind_10 ?_
  refine ld_i2 iX8_paidBehind_13 ?_
  refine al_17 rfl (by omega) iX8_paidBehind_14 ?_
  rw [y3.1]
  refine r_i2l (by omega) iX8_paidBehind_15 ?_
  refine r_ldc2 (z := 1000000000) kKX8_25 (by decide) iX8_paidBehind_16 ?_
  refine r_lmul iX8_paidBehind_19 ?_
  refine ld_a1 iX8_paidBehind_20 ?_
  refine ld_i2 iX8_paidBehind_21 ?_
  refine r_iconst iX8_paidBehind_22 ?_
  refine r_iadd iX8_paidBehind_23 ?_
  refine ld_i4 iX8_paidBehind_24 ?_
  refine ld_a0 iX8_paidBehind_26 ?_
  refine gf_X8_wages kFX8_9 iX8_paidBehind_27 ?_
  refine ld_i2 iX8_paidBehind_30 ?_
  refine al_17 rfl (by omega) iX8_paidBehind_31 ?_
  rw [y3.1]
  refine r_iadd iX8_paidBehind_32 ?_
  refine xX8_due kMX8_39 iX8_paidBehind_33 (by decide) (Nat.le_of_ble_eq_true rfl) rfl rfl ?_
  refine c_yDue hL (by omega) (by omega) (fun N2 e1 => ?_)
  refine ld_a1 iX8_paidBehind_36 ?_
  refine ld_i2 iX8_paidBehind_37 ?_
  refine r_iconst iX8_paidBehind_38 ?_
  refine r_iadd iX8_paidBehind_39 ?_
  refine ld_i4 iX8_paidBehind_40 ?_
  refine xX8_due kMX8_39 iX8_paidBehind_42 (by decide) (Nat.le_of_ble_eq_true rfl) rfl rfl ?_
  refine c_yDue (hL.sr e1) (by omega) (by omega) (fun N3 e2 => ?_)
  refine r_lsub iX8_paidBehind_45 ?_
  refine r_lsub iX8_paidBehind_46 ?_
  refine t_long rfl iX8_paidBehind_47 ?_
  exact hq N3 (e1.tr e2)
theorem c_yAbove {Pq : Int → Nm → Ge → Prop} (hL : Ln N g i F P s G) (hY : YI N wg p) (hq : ∀ N', Sr N N' → Pq (ct (fun k => decide (wg k * 1000000000 < pIn F wg k)) p) N' g) : Ck K YX8_paidAboveWage hX8_paidAboveWage [vr 16 0, vr 12 i] N g (qI Pq) := by
  have y2 := hY.2.1
  refine Ck.intro 2 (by decide) rfl ?_
  show AW _ _ _ _ _ [some (vr 16 0), some (vr 12 i), none, none] _ _ _
  have loop : ∀ (k q : Nat) (a c : Int) (N' : Nm), p - q = k → q ≤ p → c = q → a = ct (fun k => decide (wg k * 1000000000 < pIn F wg k)) q → Sr N N' → AW K YX8_paidAboveWage hX8_paidAboveWage (qI Pq) 4 [some (vr 16 0), some (vr 12 i), some (vi a), some (vi c)] [] N' g := by
    intro k
    induction k using Nat.strongRecOn with
    | _ k ih =>
      intro q a c N' e h1 h2 h3 h4
      subst h2
      have hY' := hY.sr h4
      have hL' := hL.sr h4
      refine ld_i3 iX8_paidAboveWage_4 ?_
      refine ld_a0 iX8_paidAboveWage_5 ?_
      refine gf_X8_passed kFX8_15 iX8_paidAboveWage_6 ?_
      rw [hY'.1]
      refine r_icmpge iX8_paidAboveWage_9 (by omega) (by omega) (fun h9 => ?_) (fun h9 => ?_)
      · refine ld_i2 iX8_paidAboveWage_42 ?_
        refine t_int rfl iX8_paidAboveWage_43 ?_
        have e : q = p := by omega
        rw [h3, e]; exact hq N' h4
      · have y3 := hY.2.2 q (by omega)
        have pb := pIn_bd hL.2.2.2.2.1 (wg := wg) (i := q) (by omega) (fun j hj => (hY.2.2 j (by omega)).2)
        refine ld_a0 iX8_paidAboveWage_12 ?_
        refine ld_a1 iX8_paidAboveWage_13 ?_
        refine ld_i3 iX8_paidAboveWage_14 ?_
        refine xX8_paidIn kMX8_47 iX8_paidAboveWage_15 (by decide) (Nat.le_of_ble_eq_true rfl) rfl rfl ?_
        refine c_yPaidIn hL' hY' (by omega) (fun N2 e1 => ?_)
        refine ld_a0 iX8_paidAboveWage_18 ?_
        refine gf_X8_wages kFX8_9 iX8_paidAboveWage_19 ?_
        refine ld_i3 iX8_paidAboveWage_22 ?_
        refine al_17 rfl (by omega) iX8_paidAboveWage_23 ?_
        rw [((hY'.sr e1).2.2 q (by omega)).1]
        refine r_i2l (by omega) iX8_paidAboveWage_24 ?_
        refine r_ldc2 (z := 1000000000) kKX8_25 (by decide) iX8_paidAboveWage_25 ?_
        refine r_lmul iX8_paidAboveWage_28 ?_
        refine r_lcle iX8_paidAboveWage_29 iX8_paidAboveWage_30 (by omega) (by omega) (fun h29 => ?_) (fun h29 => ?_)
        · refine inc_3 (by decide) rfl iX8_paidAboveWage_36 ?_
          refine r_goto iX8_paidAboveWage_39 ?_
          first
            | exact ih (p - (q + 1)) (by omega) (q + 1) _ _ N2 rfl (by omega) (by omega) (by rw [ct, decide_eq_true (show wg q * 1000000000 < pIn F wg q by omega), h3]; simp) (h4.tr e1)
            | exact ih (p - (q + 1)) (by omega) (q + 1) _ _ N2 rfl (by omega) (by omega) (by rw [ct, decide_eq_false (show ¬ wg q * 1000000000 < pIn F wg q by omega), h3]; simp) (h4.tr e1)
        · refine inc_2 (by decide) rfl iX8_paidAboveWage_33 ?_
          refine inc_3 (by decide) rfl iX8_paidAboveWage_36 ?_
          refine r_goto iX8_paidAboveWage_39 ?_
          first
            | exact ih (p - (q + 1)) (by omega) (q + 1) _ _ N2 rfl (by omega) (by omega) (by rw [ct, decide_eq_true (show wg q * 1000000000 < pIn F wg q by omega), h3]; simp) (h4.tr e1)
            | exact ih (p - (q + 1)) (by omega) (q + 1) _ _ N2 rfl (by omega) (by omega) (by rw [ct, decide_eq_false (show ¬ wg q * 1000000000 < pIn F wg q by omega), h3]; simp) (h4.tr e1)
  refine r_iconst iX8_paidAboveWage_0 ?_
  refine sv_i2 (by decide) rfl iX8_paidAboveWage_1 ?_
  refine r_iconst iX8_paidAboveWage_2 ?_
  refine sv_i3 (by decide) rfl iX8_paidAboveWage_3 ?_
  exact loop p 0 _ _ N (by omega) (by omega) (by omega) rfl (Sr.rf N)
theorem c_yLeastPaid {Pq : Int → Nm → Ge → Prop} (hL : Ln N g i F P s G) (hY : YI N wg p) (hq : ∀ r N', Amx (fun k => - pIn F wg k) (fun _ => True) p r → Sr N N' → Pq r N' g) : Ck K YX8_leastPaid hX8_leastPaid [vr 16 0, vr 12 i] N g (qI Pq) := by
  have y2 := hY.2.1
  refine Ck.intro 2 (by decide) rfl ?_
  show AW _ _ _ _ _ [some (vr 16 0), some (vr 12 i), none, none] _ _ _
  have loop : ∀ (k q : Nat) (a c : Int) (N' : Nm), p - q = k → q ≤ p → c = q → Amx (fun k => - pIn F wg k) (fun _ => True) q a → Sr N N' → AW K YX8_leastPaid hX8_leastPaid (qI Pq) 4 [some (vr 16 0), some (vr 12 i), some (vi a), some (vi c)] [] N' g := by
    intro k
    induction k using Nat.strongRecOn with
    | _ k ih =>
      intro q a c N' e h1 h2 h3 h4
      subst h2
      have hY' := hY.sr h4
      have hL' := hL.sr h4
      have har : rI a := by rcases h3 with ⟨z, -⟩ | ⟨w, z, z2, -⟩ <;> omega
      have pb : ∀ k, k < p → _ := fun k hk => pIn_bd hL.2.2.2.2.1 (wg := wg) (i := k) (by omega) (fun j hj => (hY.2.2 j (by omega)).2)
      have tn : ∀ N', Sr N N' → q < p → (q = 0 ∨ ∃ b : Nat, a = b ∧ b < q ∧ pIn F wg q < pIn F wg b) → AW K YX8_leastPaid hX8_leastPaid (qI Pq) 33 [some (vr 16 0), some (vr 12 i), some (vi a), some (vi q)] [] N' g := by
        intro N' h4 hqp hb
        refine ld_i3 iX8_leastPaid_33 ?_
        refine sv_i2 (by decide) rfl iX8_leastPaid_34 ?_
        refine inc_3 (by decide) rfl iX8_leastPaid_35 ?_
        refine r_goto iX8_leastPaid_38 ?_
        refine ih (p - (q + 1)) (by omega) (q + 1) _ _ N' rfl (by omega) (by omega) (Or.inr ⟨q, rfl, by omega, trivial, fun u hu _ => ?_, fun u hu _ => ?_⟩) h4
        · show - pIn F wg u ≤ - pIn F wg q
          by_cases eu : u = q
          · rw [eu]; omega
          · rcases hb with z | ⟨b, z1, z2, z3⟩
            · omega
            · rcases h3 with ⟨y, -⟩ | ⟨b', y1, y2, y3, y4, y5⟩
              · omega
              · have e : b' = b := by omega
                subst e
                have := y4 u (by omega) trivial
                have this : - pIn F wg u ≤ - pIn F wg b' := this
                omega
        · show - pIn F wg u < - pIn F wg q
          rcases hb with z | ⟨b, z1, z2, z3⟩
          · omega
          · rcases h3 with ⟨y, -⟩ | ⟨b', y1, y2, y3, y4, y5⟩
            · omega
            · have e : b' = b := by omega
              subst e
              have := y4 u (by omega) trivial
              have this : - pIn F wg u ≤ - pIn F wg b' := this
              omega
      rcases h3 with ⟨y, y0⟩ | ⟨b, y1, y2', y3, y4, y5⟩
      · have hq0 : q = 0 := by
          rcases Nat.eq_zero_or_pos q with z | z
          · exact z
          · exact absurd trivial (y0 0 z)
        refine ld_i3 iX8_leastPaid_4 ?_
        refine ld_a0 iX8_leastPaid_5 ?_
        refine gf_X8_passed kFX8_15 iX8_leastPaid_6 ?_
        rw [hY'.1]
        refine r_icmpge iX8_leastPaid_9 (by omega) (by omega) (fun h9 => ?_) (fun h9 => ?_)
        · refine ld_i2 iX8_leastPaid_41 ?_
          refine t_int rfl iX8_leastPaid_42 ?_
          have e : q = p := by omega
          rw [e] at y0; exact hq _ N' (Or.inl ⟨y, y0⟩) h4
        · refine ld_i2 iX8_leastPaid_12 ?_
          refine r_iconst iX8_leastPaid_13 ?_
          refine r_icmpeq iX8_leastPaid_14 (by omega) (by omega) (fun h14 => ?_) (fun h14 => ?_)
          · exact tn N' h4 (by omega) (Or.inl hq0)
          · exfalso; omega
      · subst y1
        refine ld_i3 iX8_leastPaid_4 ?_
        refine ld_a0 iX8_leastPaid_5 ?_
        refine gf_X8_passed kFX8_15 iX8_leastPaid_6 ?_
        rw [hY'.1]
        refine r_icmpge iX8_leastPaid_9 (by omega) (by omega) (fun h9 => ?_) (fun h9 => ?_)
        · refine ld_i2 iX8_leastPaid_41 ?_
          refine t_int rfl iX8_leastPaid_42 ?_
          have e : q = p := by omega
          rw [e] at y2' y4; exact hq _ N' (Or.inr ⟨b, rfl, y2', y3, y4, y5⟩) h4
        · refine ld_i2 iX8_leastPaid_12 ?_
          refine r_iconst iX8_leastPaid_13 ?_
          refine r_icmpeq iX8_leastPaid_14 (by omega) (by omega) (fun h14 => ?_) (fun h14 => ?_)
          · exfalso; omega
          · refine ld_a0 iX8_leastPaid_17 ?_
            refine ld_a1 iX8_leastPaid_18 ?_
            refine ld_i3 iX8_leastPaid_19 ?_
            refine xX8_paidIn kMX8_47 iX8_leastPaid_20 (by decide) (Nat.le_of_ble_eq_true rfl) rfl rfl ?_
            refine c_yPaidIn hL' hY' (by omega) (fun N2 e1 => ?_)
            refine ld_a0 iX8_leastPaid_23 ?_
            refine ld_a1 iX8_leastPaid_24 ?_
            refine ld_i2 iX8_leastPaid_25 ?_
            refine xX8_paidIn kMX8_47 iX8_leastPaid_26 (by decide) (Nat.le_of_ble_eq_true rfl) rfl rfl ?_
            refine c_yPaidIn (hL'.sr e1) (hY'.sr e1) (by omega) (fun N3 e2 => ?_)
            have pq := pb q (by omega)
            have pb' := pb b (by omega)
            refine r_lcge iX8_leastPaid_29 iX8_leastPaid_30 (by omega) (by omega) (fun h29 => ?_) (fun h29 => ?_)
            · refine inc_3 (by decide) rfl iX8_leastPaid_35 ?_
              refine r_goto iX8_leastPaid_38 ?_
              refine ih (p - (q + 1)) (by omega) (q + 1) _ _ N3 rfl (by omega) (by omega) (Or.inr ⟨b, rfl, by omega, trivial, fun u hu _ => ?_, y5⟩) ((h4.tr e1).tr e2)
              show - pIn F wg u ≤ - pIn F wg b
              by_cases eu : u = q
              · rw [eu]; omega
              · exact y4 u (by omega) trivial
            · exact tn N3 ((h4.tr e1).tr e2) (by omega) (Or.inr ⟨b, rfl, y2', by omega⟩)
  refine r_iconst iX8_leastPaid_0 ?_
  refine sv_i2 (by decide) rfl iX8_leastPaid_1 ?_
  refine r_iconst iX8_leastPaid_2 ?_
  refine sv_i3 (by decide) rfl iX8_leastPaid_3 ?_
  exact loop p 0 _ _ N (by omega) (by omega) (by omega) (Or.inl ⟨rfl, fun w hw => by omega⟩) (Sr.rf N)
end Year9
