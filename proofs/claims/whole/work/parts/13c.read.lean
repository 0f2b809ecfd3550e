/-! own text: the class reads its tape: places, numbers -/
/-- the tape of the class is T, of length L -/
def Tp (N : Nm) (T : Nat → Int) (L : Nat) : Prop := N 1 0 1 = L ∧ L ≤ 400 ∧ ∀ j, j < L → N 2 0 j = T j ∧ 0 ≤ T j ∧ T j ≤ 255
/-- the Reader stands at p, nothing is wrong so far -/
def Rd (N : Nm) (T : Nat → Int) (L p : Nat) : Prop := Tp N T L ∧ N 1 0 2 = p ∧ N 1 0 3 = -1 ∧ p ≤ L
/-- nothing but the place and what is wrong has changed -/
def FrC (N N' : Nm) : Prop := ∀ k i j, ¬ (k = 1 ∧ (j = 2 ∨ j = 3)) → N' k i j = N k i j
theorem FrC.rf (N : Nm) : FrC N N := fun _ _ _ _ => rfl
theorem FrC.tr {A B C : Nm} (h1 : FrC A B) (h2 : FrC B C) : FrC A C := fun k a j q => (h2 k a j q).trans (h1 k a j q)
theorem FrC.up {A B : Nm} {i j : Nat} {v : Int} (h : FrC A B) (hj : j = 2 ∨ j = 3) : FrC A (upN B 1 i j v) := fun k' a' j' q => by
  rw [← h k' a' j' q]
  exact if_neg (fun y => q ⟨y.1, by omega⟩)
theorem Tp.of {N N' : Nm} {T : Nat → Int} {L : Nat} (h : Tp N T L) (f1 : N' 1 0 1 = N 1 0 1) (f2 : ∀ j, N' 2 0 j = N 2 0 j) : Tp N' T L := ⟨by rw [f1]; exact h.1, h.2.1, fun j hj => by rw [f2]; exact h.2.2 j hj⟩
theorem Tp.c {N N' : Nm} {T : Nat → Int} {L : Nat} (h : Tp N T L) (f : FrC N N') : Tp N' T L := h.of (f 1 0 1 (by omega)) (fun j => f 2 0 j (by omega))
theorem Rd.go {N N' : Nm} {T : Nat → Int} {L p q : Nat} {z : Int} (h : Rd N T L p) (hz : z = q) (hq : q ≤ L) (hN : N' = upN N 1 0 2 z) : Rd N' T L q := by
  subst hN
  exact ⟨h.1.of (upN_j (by decide)) (fun j => upN_k (by decide)), by rw [upN_eq]; exact hz, by rw [upN_j (by decide)]; exact h.2.2.1, hq⟩
theorem tat_r {N : Nm} {T : Nat → Int} {L : Nat} (h : Tp N T L) (p : Nat) : -1 ≤ tat T L p ∧ tat T L p ≤ 255 := by
  unfold tat
  split
  · rename_i c
    have := (h.2.2 p c).2; omega
  · omega
section Read9
variable {K : Kx} {N : Nm} {g : Ge} {T : Nat → Int} {L p : Nat}
theorem c_look {Pq : Int → Nm → Ge → Prop} (hR : Rd N T L p) (hq : ∀ N', FrC N N' → Rd N' T L (sk T L p) → Pq (tat T L (sk T L p)) N' g) : Ck K YX4_look hX4_look [vr 1 0] N g (qI Pq) := by
  refine Ck.intro 0 (by decide) rfl ?_
  show AW _ _ _ _ _ [some (vr 1 0)] _ _ _
  have loop : ∀ (n u : Nat) (N' : Nm), L - u = n → FrC N N' → Rd N' T L u → sk T L u = sk T L p → AW K YX4_look hX4_look (qI Pq) 0 [some (vr 1 0)] [] N' g := by
    intro n
    induction n using Nat.strongRecOn with
    | _ n ih =>
      intro u N' e hF hR' hs
      obtain ⟨⟨t1, t2, t3⟩, r1, r2, r3⟩ := id hR'
      have tl : sk T L u = u → AW K YX4_look hX4_look (qI Pq) 38 [some (vr 1 0)] [] N' g := by
        intro hu
        rw [← hs, hu] at hq
        have hq := hq N' hF hR'
        unfold tat at hq
        refine ld_a0 iX4_look_38 ?_
        refine gf_X4_place kFX4_19 iX4_look_39 ?_
        rw [r1]
        refine ld_a0 iX4_look_42 ?_
        refine gf_X4_length kFX4_15 iX4_look_43 ?_
        rw [t1]
        refine r_icmpge iX4_look_46 (by omega) (by omega) (fun h46 => ?_) (fun h46 => ?_)
        · refine r_iconst iX4_look_61 ?_
          refine t_int rfl iX4_look_62 ?_
          first
            | (rw [if_pos (by omega)] at hq; exact hq)
            | (rw [if_neg (by omega)] at hq; exact hq)
        · refine ld_a0 iX4_look_49 ?_
          refine gf_X4_tape kFX4_9 iX4_look_50 ?_
          refine ld_a0 iX4_look_53 ?_
          refine gf_X4_place kFX4_19 iX4_look_54 ?_
          rw [r1]
          refine al_2 rfl (by omega) iX4_look_57 ?_
          rw [(t3 u (by omega)).1]
          refine r_goto iX4_look_58 ?_
          refine t_int rfl iX4_look_62 ?_
          first
            | (rw [if_pos (by omega)] at hq; exact hq)
            | (rw [if_neg (by omega)] at hq; exact hq)
      refine ld_a0 iX4_look_0 ?_
      refine gf_X4_place kFX4_19 iX4_look_1 ?_
      rw [r1]
      refine ld_a0 iX4_look_4 ?_
      refine gf_X4_length kFX4_15 iX4_look_5 ?_
      rw [t1]
      refine r_icmpge iX4_look_8 (by omega) (by omega) (fun h8 => ?_) (fun h8 => ?_)
      · exact tl (sk_stop (by omega))
      · have hb := t3 u (by omega)
        refine ld_a0 iX4_look_11 ?_
        refine gf_X4_tape kFX4_9 iX4_look_12 ?_
        refine ld_a0 iX4_look_15 ?_
        refine gf_X4_place kFX4_19 iX4_look_16 ?_
        rw [r1]
        refine al_2 rfl (by omega) iX4_look_19 ?_
        rw [hb.1]
        refine r_bipush (by decide) iX4_look_20 ?_
        refine r_icmpne iX4_look_22 (by omega) (by omega) (fun h22 => ?_) (fun h22 => ?_)
        · exact tl (sk_stop (by omega))
        · refine ld_a0 iX4_look_25 ?_
          refine r_dup rfl iX4_look_26 ?_
          refine gf_X4_place kFX4_19 iX4_look_27 ?_
          rw [r1]
          refine r_iconst iX4_look_30 ?_
          refine r_iadd iX4_look_31 ?_
          refine pf_X4_place kFX4_19 iX4_look_32 ?_
          refine r_goto iX4_look_35 ?_
          exact ih (L - (u + 1)) (by omega) (u + 1) _ rfl (hF.up (by omega)) (hR'.go (by omega) (by omega) rfl) (by rw [← sk_step (by omega) (by omega)]; exact hs)
  exact loop (L - p) p N rfl (FrC.rf N) hR rfl
theorem c_fail {w : Int} {Pq : Int → Nm → Ge → Prop} (hq : Pq 0 (upN N 1 0 3 w) g) : Ck K YX4_fail hX4_fail [vr 1 0, vi w] N g (qI Pq) := by
  refine Ck.intro 0 (by decide) rfl ?_
  show AW _ _ _ _ _ [some (vr 1 0), some (vi w)] _ _ _
  refine ld_a0 iX4_fail_0 ?_
  refine ld_i1 iX4_fail_1 ?_
  refine pf_X4_wrong kFX4_22 iX4_fail_2 ?_
  refine r_iconst iX4_fail_5 ?_
  refine t_bool rfl (by omega) iX4_fail_6 ?_
  exact hq
theorem c_take {c : Int} {Pq : Int → Nm → Ge → Prop} (hc : 0 ≤ c ∧ c ≤ 255) (hR : Rd N T L p) (hq : ∀ z N', (z = 0 ∨ z = 1) → FrC N N' → Imp (z = 1) (tat T L (sk T L p) = c ∧ sk T L p < L ∧ Rd N' T L (sk T L p + 1)) → Imp (z = 0) (tat T L (sk T L p) ≠ c ∧ N' 1 0 3 = (sk T L p : Int)) → Pq z N' g) : Ck K YX4_take hX4_take [vr 1 0, vi c] N g (qI Pq) := by
  have hb := tat_r hR.1 (sk T L p)
  refine Ck.intro 0 (by decide) rfl ?_
  show AW _ _ _ _ _ [some (vr 1 0), some (vi c)] _ _ _
  refine ld_a0 iX4_take_0 ?_
  refine xX4_look kMX4_34 iX4_take_1 (by decide) (Nat.le_of_ble_eq_true rfl) rfl rfl ?_
  refine c_look hR (fun N' f1 e1 => ?_)
  refine ld_i1 iX4_take_4 ?_
  refine r_icmpeq iX4_take_5 (by omega) (by omega) (fun h5 => ?_) (fun h5 => ?_)
  · have hl := tat_in (T := T) (L := L) (p := sk T L p) (by omega)
    refine ld_a0 iX4_take_17 ?_
    refine r_dup rfl iX4_take_18 ?_
    refine gf_X4_place kFX4_19 iX4_take_19 ?_
    rw [e1.2.1]
    refine r_iconst iX4_take_22 ?_
    refine r_iadd iX4_take_23 ?_
    refine pf_X4_place kFX4_19 iX4_take_24 ?_
    refine r_iconst iX4_take_27 ?_
    refine t_bool rfl (by omega) iX4_take_28 ?_
    exact hq 1 _ (by omega) (f1.up (by omega)) (fun _ => ⟨h5, hl, e1.go (by omega) (by omega) rfl⟩) (fun z => by omega)
  · refine ld_a0 iX4_take_8 ?_
    refine ld_a0 iX4_take_9 ?_
    refine gf_X4_place kFX4_19 iX4_take_10 ?_
    rw [e1.2.1]
    refine xX4_fail kMX4_52 iX4_take_13 (by decide) (Nat.le_of_ble_eq_true rfl) rfl rfl ?_
    refine c_fail ?_
    refine t_bool rfl (by omega) iX4_take_16 ?_
    exact hq 0 _ (by omega) (f1.up (by omega)) (fun z => by omega) (fun _ => ⟨h5, upN_eq _ _ _ _ _⟩)
theorem c_xDigit {q : Nat} {Pq : Int → Nm → Ge → Prop} (hT : Tp N T L) (hq : q ≤ L) (hk : Pq (tf (isD T L q)) N g) : Ck K YX4_isDigit hX4_isDigit [vr 1 0, vi q] N g (qI Pq) := by
  obtain ⟨t1, t2, t3⟩ := id hT
  refine Ck.intro 0 (by decide) rfl ?_
  show AW _ _ _ _ _ [some (vr 1 0), some (vi q)] _ _ _
  have tl : ∀ z : Int, z = tf (isD T L q) → AW K YX4_isDigit hX4_isDigit (qI Pq) 35 [some (vr 1 0), some (vi q)] [vi z] N g := by
    intro z hz
    rw [← hz] at hk
    have hz2 : z = 0 ∨ z = 1 := by rw [hz]; exact tf_b _
    refine t_bool rfl (by omega) iX4_isDigit_35 ?_
    exact hk
  refine ld_i1 iX4_isDigit_0 ?_
  refine ld_a0 iX4_isDigit_1 ?_
  refine gf_X4_length kFX4_15 iX4_isDigit_2 ?_
  rw [t1]
  refine r_icmpge iX4_isDigit_5 (by omega) (by omega) (fun h5 => ?_) (fun h5 => ?_)
  · refine r_iconst iX4_isDigit_34 ?_
    refine tl _ ?_
    unfold tf
    first
      | rw [if_pos ⟨by omega, by omega, by omega⟩]
      | rw [if_neg (fun z => by omega)]
  · have hb := t3 q (by omega)
    refine ld_a0 iX4_isDigit_8 ?_
    refine gf_X4_tape kFX4_9 iX4_isDigit_9 ?_
    refine ld_i1 iX4_isDigit_12 ?_
    refine al_2 rfl (by omega) iX4_isDigit_13 ?_
    rw [hb.1]
    refine r_bipush (by decide) iX4_isDigit_14 ?_
    refine r_icmplt iX4_isDigit_16 (by omega) (by omega) (fun h16 => ?_) (fun h16 => ?_)
    · refine r_iconst iX4_isDigit_34 ?_
      refine tl _ ?_
      unfold tf
      first
        | rw [if_pos ⟨by omega, by omega, by omega⟩]
        | rw [if_neg (fun z => by omega)]
    · refine ld_a0 iX4_isDigit_19 ?_
      refine gf_X4_tape kFX4_9 iX4_isDigit_20 ?_
      refine ld_i1 iX4_isDigit_23 ?_
      refine al_2 rfl (by omega) iX4_isDigit_24 ?_
      rw [hb.1]
      refine r_bipush (by decide) iX4_isDigit_25 ?_
      refine r_icmpgt iX4_isDigit_27 (by omega) (by omega) (fun h27 => ?_) (fun h27 => ?_)
      · refine r_iconst iX4_isDigit_34 ?_
        refine tl _ ?_
        unfold tf
        first
          | rw [if_pos ⟨by omega, by omega, by omega⟩]
          | rw [if_neg (fun z => by omega)]
      · refine r_iconst iX4_isDigit_30 ?_
        refine r_goto iX4_isDigit_31 ?_
        refine tl _ ?_
        unfold tf
        first
          | rw [if_pos ⟨by omega, by omega, by omega⟩]
          | rw [if_neg (fun z => by omega)]
theorem c_readNumber {lo hi : Int} {Pq : Int → Nm → Ge → Prop} (hl : 0 ≤ lo ∧ lo ≤ 20000) (hh : 0 ≤ hi ∧ hi ≤ 20000) (hR : Rd N T L p) (hq : ∀ z N', (-1 ≤ z ∧ z ≤ 20000) → FrC N N' → Imp (z = -1) (∃ w : Nat, pNum T L p lo hi = .inl w ∧ N' 1 0 3 = (w : Int)) → Imp (z ≠ -1) (∃ p', pNum T L p lo hi = .inr (p', z) ∧ Rd N' T L p') → Pq z N' g) : Ck K YX4_readNumber hX4_readNumber [vr 1 0, vi lo, vi hi] N g (qI Pq) := by
  refine Ck.intro 2 (by decide) rfl ?_
  show AW _ _ _ _ _ [some (vr 1 0), some (vi lo), some (vi hi), none, none] _ _ _
  have loop : ∀ (n k : Nat) (v c : Int) (N' : Nm), 4 - k = n → k ≤ 4 → c = k → v = dgv T (sk T L p) k → (∀ i, i < k → isD T L (sk T L p + i)) → FrC N N' → Rd N' T L (sk T L p + k) → AW K YX4_readNumber hX4_readNumber (qI Pq) 10 [some (vr 1 0), some (vi lo), some (vi hi), some (vi v), some (vi c)] [] N' g := by
    intro n
    induction n using Nat.strongRecOn with
    | _ n ih =>
      intro k v c N' e hk hc hv hd hF hR'
      subst hc
      obtain ⟨hT, r1, r2, r3⟩ := id hR'
      have t2 := hT.2.1
      have vb := dgv_b hk hd
      rw [← hv] at vb
      have t61 : (k = 4 ∨ ¬ isD T L (sk T L p + k)) → AW K YX4_readNumber hX4_readNumber (qI Pq) 61 [some (vr 1 0), some (vi lo), some (vi hi), some (vi v), some (vi k)] [] N' g := by
        intro hx
        have hg := dgc_eq 4 (sk T L p) k hd hk hx
        have hp : pNum T L p lo hi = if k = 0 ∨ isD T L (sk T L p + k) then .inl (sk T L p + k) else if v < lo ∨ hi < v then .inl (sk T L p + k - 1) else .inr (sk T L p + k, v) := by unfold pNum; rw [hg, hv]
        have t77 : (k = 0 ∨ isD T L (sk T L p + k)) → AW K YX4_readNumber hX4_readNumber (qI Pq) 77 [some (vr 1 0), some (vi lo), some (vi hi), some (vi v), some (vi k)] [] N' g := by
          intro hy
          rw [if_pos hy] at hp
          refine ld_a0 iX4_readNumber_77 ?_
          refine ld_a0 iX4_readNumber_78 ?_
          refine gf_X4_place kFX4_19 iX4_readNumber_79 ?_
          rw [r1]
          refine xX4_fail kMX4_52 iX4_readNumber_82 (by decide) (Nat.le_of_ble_eq_true rfl) rfl rfl ?_
          refine c_fail ?_
          refine r_pop rfl iX4_readNumber_85 ?_
          refine r_iconst iX4_readNumber_86 ?_
          refine t_int rfl iX4_readNumber_87 ?_
          exact hq _ _ (by omega) (hF.up (by omega)) (fun _ => ⟨_, hp, upN_eq _ _ _ _ _⟩) (fun z => absurd rfl z)
        have t98 : ¬ (k = 0 ∨ isD T L (sk T L p + k)) → (v < lo ∨ hi < v) → AW K YX4_readNumber hX4_readNumber (qI Pq) 98 [some (vr 1 0), some (vi lo), some (vi hi), some (vi v), some (vi k)] [] N' g := by
          intro hy hy2
          rw [if_neg hy, if_pos hy2] at hp
          have hk0 : k ≠ 0 := fun z => hy (Or.inl z)
          refine ld_a0 iX4_readNumber_98 ?_
          refine ld_a0 iX4_readNumber_99 ?_
          refine gf_X4_place kFX4_19 iX4_readNumber_100 ?_
          rw [r1]
          refine r_iconst iX4_readNumber_103 ?_
          refine r_isub iX4_readNumber_104 ?_
          refine xX4_fail kMX4_52 iX4_readNumber_105 (by decide) (Nat.le_of_ble_eq_true rfl) rfl rfl ?_
          refine c_fail ?_
          refine r_pop rfl iX4_readNumber_108 ?_
          refine r_iconst iX4_readNumber_109 ?_
          refine t_int rfl iX4_readNumber_110 ?_
          exact hq _ _ (by omega) (hF.up (by omega)) (fun _ => ⟨_, hp, by rw [upN_eq]; omega⟩) (fun z => absurd rfl z)
        refine ld_i4 iX4_readNumber_61 ?_
        refine r_ifeq iX4_readNumber_63 (by omega) (fun h63 => ?_) (fun h63 => ?_)
        · first
            | exact t77 (Or.inl (by omega))
            | exact t77 (Or.inr h74)
        · refine ld_a0 iX4_readNumber_66 ?_
          refine ld_a0 iX4_readNumber_67 ?_
          refine gf_X4_place kFX4_19 iX4_readNumber_68 ?_
          rw [r1]
          refine xX4_isDigit kMX4_103 iX4_readNumber_71 (by decide) (Nat.le_of_ble_eq_true rfl) rfl rfl ?_
          refine c_xDigit hT r3 ?_
          refine r_ifeq iX4_readNumber_74 (by exact tf_r _) (fun h74 => ?_) (fun h74 => ?_)
          · have h74 := tf_n h74
            have hn : ¬ (k = 0 ∨ isD T L (sk T L p + k)) := fun z => z.elim (fun z => by omega) h74
            refine ld_i3 iX4_readNumber_88 ?_
            refine ld_i1 iX4_readNumber_89 ?_
            refine r_icmplt iX4_readNumber_90 (by omega) (by omega) (fun h90 => ?_) (fun h90 => ?_)
            · exact t98 hn (by omega)
            · refine ld_i3 iX4_readNumber_93 ?_
              refine ld_i2 iX4_readNumber_94 ?_
              refine r_icmple iX4_readNumber_95 (by omega) (by omega) (fun h95 => ?_) (fun h95 => ?_)
              · refine ld_i3 iX4_readNumber_111 ?_
                refine t_int rfl iX4_readNumber_112 ?_
                rw [if_neg hn, if_neg (by omega)] at hp
                exact hq _ N' (by omega) hF (fun z => by omega) (fun _ => ⟨_, hp, hR'⟩)
              · exact t98 hn (by omega)
          · have h74 := tf_y h74
            first
              | exact t77 (Or.inl (by omega))
              | exact t77 (Or.inr h74)
      refine ld_i4 iX4_readNumber_10 ?_
      refine r_iconst iX4_readNumber_12 ?_
      refine r_icmpge iX4_readNumber_13 (by omega) (by omega) (fun h13 => ?_) (fun h13 => ?_)
      · first
          | exact t61 (Or.inl (by omega))
          | exact t61 (Or.inr h24)
      · refine ld_a0 iX4_readNumber_16 ?_
        refine ld_a0 iX4_readNumber_17 ?_
        refine gf_X4_place kFX4_19 iX4_readNumber_18 ?_
        rw [r1]
        refine xX4_isDigit kMX4_103 iX4_readNumber_21 (by decide) (Nat.le_of_ble_eq_true rfl) rfl rfl ?_
        refine c_xDigit hT r3 ?_
        refine r_ifeq iX4_readNumber_24 (by exact tf_r _) (fun h24 => ?_) (fun h24 => ?_)
        · have h24 := tf_n h24
          first
            | exact t61 (Or.inl (by omega))
            | exact t61 (Or.inr h24)
        · have h24 := tf_y h24
          refine ld_i3 iX4_readNumber_27 ?_
          refine r_bipush (by decide) iX4_readNumber_28 ?_
          refine r_imul iX4_readNumber_30 ?_
          refine ld_a0 iX4_readNumber_31 ?_
          refine gf_X4_tape kFX4_9 iX4_readNumber_32 ?_
          refine ld_a0 iX4_readNumber_35 ?_
          refine gf_X4_place kFX4_19 iX4_readNumber_36 ?_
          rw [r1]
          refine al_2 rfl (by omega) iX4_readNumber_39 ?_
          rw [(hT.2.2 _ h24.1).1]
          refine r_iadd iX4_readNumber_40 ?_
          refine r_bipush (by decide) iX4_readNumber_41 ?_
          refine r_isub iX4_readNumber_43 ?_
          refine sv_i3 (by decide) rfl iX4_readNumber_44 ?_
          refine ld_a0 iX4_readNumber_45 ?_
          refine r_dup rfl iX4_readNumber_46 ?_
          refine gf_X4_place kFX4_19 iX4_readNumber_47 ?_
          rw [r1]
          refine r_iconst iX4_readNumber_50 ?_
          refine r_iadd iX4_readNumber_51 ?_
          refine pf_X4_place kFX4_19 iX4_readNumber_52 ?_
          refine inc_4 (by decide) rfl iX4_readNumber_55 ?_
          refine r_goto iX4_readNumber_58 ?_
          refine ih (4 - (k + 1)) (by omega) (k + 1) _ _ _ rfl (by omega) (by omega) (by rw [dgv, ← hv]; omega) (fun i hi => ?_) (hF.up (by omega)) (hR'.go (by omega) (by omega) rfl)
          by_cases z : i = k
          · rw [z]; exact h24
          · exact hd i (by omega)
  refine ld_a0 iX4_readNumber_0 ?_
  refine xX4_look kMX4_34 iX4_readNumber_1 (by decide) (Nat.le_of_ble_eq_true rfl) rfl rfl ?_
  refine c_look hR (fun N' f1 e1 => ?_)
  refine r_pop rfl iX4_readNumber_4 ?_
  refine r_iconst iX4_readNumber_5 ?_
  refine sv_i3 (by decide) rfl iX4_readNumber_6 ?_
  refine r_iconst iX4_readNumber_7 ?_
  refine sv_i4 (by decide) rfl iX4_readNumber_8 ?_
  exact loop 4 0 _ _ N' (by omega) (by omega) (by omega) rfl (fun i hi => by omega) f1 e1
end Read9
