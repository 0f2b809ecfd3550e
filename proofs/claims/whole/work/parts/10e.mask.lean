/-! own text: what the reference answers: searches -/
section MAsk3
variable {K : Kx} {N : Nm} {g : Ge} {d : Dk}
theorem m_exactly {v i : Int} {Pq : Int → Nm → Ge → Prop} (hM : MS N d) (rv : rL v) (ri : rI i) (hq1 : N 40 0 22 = 1 → ∀ r N', Kth (fun w => decide (PD d w = v)) 10000 i r → FrV N N' → Pq r N' g) (hq0 : ¬ N 40 0 22 = 1 → ∀ N', FrV N N' → Pq (-1) N' g) : Ck K YX10_exactly hX10_exactly [vr 40 0, vl v, vi i] N g (qI Pq) := by
  refine Ck.intro 2 (by decide) rfl ?_
  show AW _ _ _ _ _ [some (vr 40 0), some (vl v), none, some (vi i), none, none] _ _ _
  have loop : ∀ N2, N 40 0 22 = 1 → FrV N N2 → La N2 (PD d) → ∀ (n w : Nat) (t c : Int), 10000 - w = n → w ≤ 10000 → c = w → t = ct (fun w => decide (PD d w = v)) w → ¬ (0 ≤ i ∧ i < t) → AW K YX10_exactly hX10_exactly (qI Pq) 25 [some (vr 40 0), some (vl v), none, some (vi i), some (vi t), some (vi c)] [] N2 g := by
    intro N2 h1 f1 hL n
    induction n using Nat.strongRecOn with
    | _ n ih =>
      intro w t c e hw hc ht hi
      subst hc
      have ctl := ct_le (fun w => decide (PD d w = v)) w
      refine ld_i5 iX10_exactly_25 ?_
      refine r_sipush (by decide) iX10_exactly_27 ?_
      refine r_icmpge iX10_exactly_30 (by omega) (by omega) (fun h30 => ?_) (fun h30 => ?_)
      · refine r_iconst iX10_exactly_63 ?_
        refine t_int rfl iX10_exactly_64 ?_
        have e : w = 10000 := by omega
        refine hq1 h1 _ N2 (Or.inl ⟨rfl, fun q => hi ?_⟩) f1
        rw [ht, e]; exact q
      · have b1 := hL w (by omega)
        refine ld_a0 iX10_exactly_33 ?_
        refine gf_X10_line kFX10_63 iX10_exactly_34 ?_
        refine ld_i5 iX10_exactly_37 ?_
        refine al_57 rfl (by omega) iX10_exactly_39 ?_
        rw [b1.1]
        refine ld_l1 iX10_exactly_40 ?_
        refine r_lcne iX10_exactly_41 iX10_exactly_42 (by omega) (by omega) (fun h41 => ?_) (fun h41 => ?_)
        · refine inc_5 (by decide) rfl iX10_exactly_57 ?_
          refine r_goto iX10_exactly_60 ?_
          first
            | exact ih (10000 - (w + 1)) (by omega) (w + 1) _ _ rfl (by omega) (by omega) (by rw [ct, show decide (PD d w = v) = true from decide_eq_true h41, ht]; simp) (by omega)
            | exact ih (10000 - (w + 1)) (by omega) (w + 1) _ _ rfl (by omega) (by omega) (by rw [ct, show decide (PD d w = v) = false from decide_eq_false h41, ht]; simp) (by omega)
        · refine ld_i4 iX10_exactly_45 ?_
          refine ld_i3 iX10_exactly_47 ?_
          refine r_icmpne iX10_exactly_48 (by omega) (by omega) (fun h48 => ?_) (fun h48 => ?_)
          · refine inc_4 (by decide) rfl iX10_exactly_54 ?_
            refine inc_5 (by decide) rfl iX10_exactly_57 ?_
            refine r_goto iX10_exactly_60 ?_
            first
              | exact ih (10000 - (w + 1)) (by omega) (w + 1) _ _ rfl (by omega) (by omega) (by rw [ct, show decide (PD d w = v) = true from decide_eq_true h41, ht]; simp) (by omega)
              | exact ih (10000 - (w + 1)) (by omega) (w + 1) _ _ rfl (by omega) (by omega) (by rw [ct, show decide (PD d w = v) = false from decide_eq_false h41, ht]; simp) (by omega)
          · refine ld_i5 iX10_exactly_51 ?_
            refine t_int rfl iX10_exactly_53 ?_
            exact hq1 h1 _ N2 (Or.inr ⟨w, rfl, by omega, decide_eq_true h41, by omega⟩) f1
  refine ld_a0 iX10_exactly_0 ?_
  refine r_iconst iX10_exactly_1 ?_
  refine pf_X10_thrown kFX10_72 iX10_exactly_2 ?_
  obtain ⟨N1, hN1, f0⟩ : ∃ N1, N1 = upN N 40 0 0 0 ∧ FrV N N1 := ⟨_, rfl, thr_v N⟩
  rw [← hN1]
  clear hN1
  have hM1 := hM.v f0
  have h22 : N1 40 0 22 = N 40 0 22 := f0 40 0 22 (by omega) (by omega)
  have h01 := hM1.1
  refine ld_a0 iX10_exactly_5 ?_
  refine gf_X10_isDesk kFX10_165 iX10_exactly_6 ?_
  refine r_ifne iX10_exactly_9 (by omega) (fun h9 => ?_) (fun h9 => ?_)
  · refine ld_a0 iX10_exactly_14 ?_
    refine r_iconst iX10_exactly_15 ?_
    refine xX10_laysLine kMX10_219 iX10_exactly_16 (by decide) (Nat.le_of_ble_eq_true rfl) rfl rfl ?_
    refine c_laysLine hM1 (by omega) (by omega) (fun N2 e1 e2 => ?_)
    refine r_iconst iX10_exactly_19 ?_
    refine sv_i4 (by decide) rfl iX10_exactly_20 ?_
    refine r_iconst iX10_exactly_22 ?_
    refine sv_i5 (by decide) rfl iX10_exactly_23 ?_
    exact loop N2 (by omega) (f0.tr (e1.v (by omega) (by omega))) e2 10000 0 _ _ (by omega) (by omega) (by omega) rfl (by omega)
  · refine r_iconst iX10_exactly_12 ?_
    refine t_int rfl iX10_exactly_13 ?_
    exact hq0 (by omega) _ f0
/-- what the reference has of the wages ahead of w -/
def prT (F : Nat → Int) (v : Int) (w : Nat) (a l gr ne : Int) : Prop := a = ct (fun u => decide (F u = v)) w ∧ Fst (fun u => v ≤ F u) 0 w l ∧ Lst (fun u => F u ≤ v) w gr ∧ Amx F (fun u => F u ≤ v) w ne
theorem m_promised {v what : Int} {Pq : Int → Nm → Ge → Prop} (hM : MS N d) (rv : rL v) (rw' : rI what) (hq1 : N 40 0 22 = 1 ∧ (0 ≤ what ∧ what ≤ 3) → ∀ r N', prA (PD d) v what r → FrV N N' → Pq r N' g) (hq0 : ¬ (N 40 0 22 = 1 ∧ (0 ≤ what ∧ what ≤ 3)) → ∀ N', FrV N N' → Pq (-1) N' g) : Ck K YX10_promised hX10_promised [vr 40 0, vl v, vi what] N g (qI Pq) := by
  refine Ck.intro 5 (by decide) rfl ?_
  show AW _ _ _ _ _ [some (vr 40 0), some (vl v), none, some (vi what), none, none, none, none, none] _ _ _
  have loop : ∀ N2, N 40 0 22 = 1 ∧ (0 ≤ what ∧ what ≤ 3) → FrV N N2 → La N2 (PD d) → ∀ (n w : Nat) (a l gr ne c : Int), 10000 - w = n → w ≤ 10000 → c = w → prT (PD d) v w a l gr ne → AW K YX10_promised hX10_promised (qI Pq) 46 [some (vr 40 0), some (vl v), none, some (vi what), some (vi a), some (vi l), some (vi gr), some (vi ne), some (vi c)] [] N2 g := by
    intro N2 h1 f1 hL n
    induction n using Nat.strongRecOn with
    | _ n ih =>
      intro w a l gr ne c e hw hc hT
      subst hc
      obtain ⟨t1, t2, t3, t4⟩ := hT
      have rl : rI l := by rcases t2 with ⟨q, -⟩ | ⟨u, q, q1, q2, -⟩ <;> omega
      have rn' : rI ne := by rcases t4 with ⟨q, -⟩ | ⟨u, q, q1, -⟩ <;> omega
      have last : ∀ (a' l' gr' ne' : Int), w < 10000 → prT (PD d) v (w + 1) a' l' gr' ne' → AW K YX10_promised hX10_promised (qI Pq) 152 [some (vr 40 0), some (vl v), none, some (vi what), some (vi a'), some (vi l'), some (vi gr'), some (vi ne'), some (vi w)] [] N2 g := by
        intro a' l' gr' ne' hw1 hT'
        refine inc_8 (by decide) rfl iX10_promised_152 ?_
        refine r_goto iX10_promised_155 ?_
        exact ih (10000 - (w + 1)) (by omega) (w + 1) _ _ _ _ _ rfl (by omega) (by omega) hT'
      have third : ∀ (a' l' : Int), w < 10000 → a' = ct (fun u => decide (PD d u = v)) (w + 1) → Fst (fun u => v ≤ PD d u) 0 (w + 1) l' → AW K YX10_promised hX10_promised (qI Pq) 103 [some (vr 40 0), some (vl v), none, some (vi what), some (vi a'), some (vi l'), some (vi gr), some (vi ne), some (vi w)] [] N2 g := by
        intro a' l' hw1 ha' hl'
        have b1 := hL w hw1
        have keep : ¬ PD d w ≤ v → Lst (fun u => PD d u ≤ v) (w + 1) gr ∧ Amx (PD d) (fun u => PD d u ≤ v) (w + 1) ne := fun hn => by
          constructor
          · rcases t3 with ⟨q, q1⟩ | ⟨u, q, q1, q2, q3⟩
            · exact Or.inl ⟨q, fun u hu => by by_cases eu : u = w; (rw [eu]; exact hn); exact q1 u (by omega)⟩
            · exact Or.inr ⟨u, q, by omega, q2, fun x x1 x2 => by by_cases eu : x = w; (rw [eu]; exact hn); exact q3 x x1 (by omega)⟩
          · rcases t4 with ⟨q, q1⟩ | ⟨u, q, q1, q2, q3, q4⟩
            · exact Or.inl ⟨q, fun u hu => by by_cases eu : u = w; (rw [eu]; exact hn); exact q1 u (by omega)⟩
            · exact Or.inr ⟨u, q, by omega, q2, fun x x1 x2 => by by_cases eu : x = w; (rw [eu] at x2; exact absurd x2 hn); exact q3 x (by omega) x2, q4⟩
        have kgr : PD d w ≤ v → Lst (fun u => PD d u ≤ v) (w + 1) w := fun hy => Or.inr ⟨w, rfl, by omega, hy, fun x x1 x2 => by omega⟩
        have nw : PD d w ≤ v → (ne = -1 ∨ ∃ b : Nat, ne = b ∧ PD d b < PD d w) → Amx (PD d) (fun u => PD d u ≤ v) (w + 1) w := fun hy hb => by
          refine Or.inr ⟨w, rfl, by omega, hy, fun x x1 x2 => ?_, fun x x1 x2 => ?_⟩
          · by_cases eu : x = w
            · rw [eu]; exact Int.le_refl _
            · rcases t4 with ⟨q, q1⟩ | ⟨u, q, q1, q2, q3, q4⟩
              · exact absurd x2 (q1 x (by omega))
              · rcases hb with z | ⟨b, z1, z2⟩
                · omega
                · have e : u = b := by omega
                  subst e
                  have := q3 x (by omega) x2; omega
          · rcases t4 with ⟨q, q1⟩ | ⟨u, q, q1, q2, q3, q4⟩
            · exact absurd x2 (q1 x x1)
            · rcases hb with z | ⟨b, z1, z2⟩
              · omega
              · have e : u = b := by omega
                subst e
                have := q3 x x1 x2; omega
        have od : PD d w ≤ v → ∀ b : Nat, ne = b → b < w → PD d w ≤ PD d b → Amx (PD d) (fun u => PD d u ≤ v) (w + 1) ne := fun hy b hb hbw hle => by
          rcases t4 with ⟨q, q1⟩ | ⟨u, q, q1, q2, q3, q4⟩
          · omega
          · have e : u = b := by omega
            subst e
            exact Or.inr ⟨u, q, by omega, q2, fun x x1 x2 => by by_cases eu : x = w; (rw [eu]; exact hle); exact q3 x (by omega) x2, q4⟩
        have t143 : PD d w ≤ v → (ne = -1 ∨ ∃ b : Nat, ne = b ∧ PD d b < PD d w) → AW K YX10_promised hX10_promised (qI Pq) 143 [some (vr 40 0), some (vl v), none, some (vi what), some (vi a'), some (vi l'), some (vi w), some (vi ne), some (vi w)] [] N2 g := by
          intro hy hb
          refine ld_i8 iX10_promised_143 ?_
          refine r_goto iX10_promised_145 ?_
          refine sv_i7 (by decide) rfl iX10_promised_150 ?_
          exact last _ _ _ _ hw1 ⟨ha', hl', kgr hy, nw hy hb⟩
        rcases t4 with ⟨q, q1⟩ | ⟨b, q, q1, q2, q3, q4⟩
        · refine ld_a0 iX10_promised_103 ?_
          refine gf_X10_line kFX10_63 iX10_promised_104 ?_
          refine ld_i8 iX10_promised_107 ?_
          refine al_57 rfl (by omega) iX10_promised_109 ?_
          rw [b1.1]
          refine ld_l1 iX10_promised_110 ?_
          refine r_lcgt iX10_promised_111 iX10_promised_112 (by omega) (by omega) (fun h111 => ?_) (fun h111 => ?_)
          · exact last _ _ _ _ hw1 ⟨ha', hl', keep (by omega)⟩
          · refine ld_i8 iX10_promised_115 ?_
            refine sv_i6 (by decide) rfl iX10_promised_117 ?_
            refine ld_i7 iX10_promised_119 ?_
            refine r_iconst iX10_promised_121 ?_
            refine r_icmpeq iX10_promised_122 (by omega) (by omega) (fun h122 => ?_) (fun h122 => ?_)
            · exact t143 (by omega) (Or.inl q)
            · exfalso; omega
        · have b2 := hL b (by omega)
          subst q
          refine ld_a0 iX10_promised_103 ?_
          refine gf_X10_line kFX10_63 iX10_promised_104 ?_
          refine ld_i8 iX10_promised_107 ?_
          refine al_57 rfl (by omega) iX10_promised_109 ?_
          rw [b1.1]
          refine ld_l1 iX10_promised_110 ?_
          refine r_lcgt iX10_promised_111 iX10_promised_112 (by omega) (by omega) (fun h111 => ?_) (fun h111 => ?_)
          · first
              | exact last _ _ _ _ hw1 ⟨ha', hl', keep (by omega)⟩
              | exact last _ _ _ _ hw1 ⟨ha', hl', kgr (by omega), od (by omega) b rfl q1 (by omega)⟩
          · refine ld_i8 iX10_promised_115 ?_
            refine sv_i6 (by decide) rfl iX10_promised_117 ?_
            refine ld_i7 iX10_promised_119 ?_
            refine r_iconst iX10_promised_121 ?_
            refine r_icmpeq iX10_promised_122 (by omega) (by omega) (fun h122 => ?_) (fun h122 => ?_)
            · exfalso; omega
            · refine ld_a0 iX10_promised_125 ?_
              refine gf_X10_line kFX10_63 iX10_promised_126 ?_
              refine ld_i8 iX10_promised_129 ?_
              refine al_57 rfl (by omega) iX10_promised_131 ?_
              rw [b1.1]
              refine ld_a0 iX10_promised_132 ?_
              refine gf_X10_line kFX10_63 iX10_promised_133 ?_
              refine ld_i7 iX10_promised_136 ?_
              refine al_57 rfl (by omega) iX10_promised_138 ?_
              rw [b2.1]
              refine r_lcle iX10_promised_139 iX10_promised_140 (by omega) (by omega) (fun h139 => ?_) (fun h139 => ?_)
              · refine ld_i7 iX10_promised_148 ?_
                refine sv_i7 (by decide) rfl iX10_promised_150 ?_
                first
                  | exact last _ _ _ _ hw1 ⟨ha', hl', keep (by omega)⟩
                  | exact last _ _ _ _ hw1 ⟨ha', hl', kgr (by omega), od (by omega) b rfl q1 (by omega)⟩
              · exact t143 (by omega) (Or.inr ⟨b, rfl, by omega⟩)
      have second : ∀ (a' : Int), w < 10000 → a' = ct (fun u => decide (PD d u = v)) (w + 1) → AW K YX10_promised hX10_promised (qI Pq) 76 [some (vr 40 0), some (vl v), none, some (vi what), some (vi a'), some (vi l), some (vi gr), some (vi ne), some (vi w)] [] N2 g := by
        intro a' hw1 ha'
        have b1 := hL w hw1
        refine ld_i5 iX10_promised_76 ?_
        refine r_iconst iX10_promised_78 ?_
        refine r_icmpne iX10_promised_79 (by omega) (by omega) (fun h79 => ?_) (fun h79 => ?_)
        · refine ld_i5 iX10_promised_99 ?_
          refine sv_i5 (by decide) rfl iX10_promised_101 ?_
          refine third _ _ hw1 ha' ?_
          rcases t2 with ⟨q, q1⟩ | ⟨u, q, q1, q2, q3, q4⟩
          · first
            | (exfalso; omega)
            | exact Or.inr ⟨w, rfl, by omega, by omega, by omega, q1⟩
            | exact Or.inl ⟨q, fun x x1 x2 => by by_cases eu : x = w; (rw [eu]; omega); exact q1 x x1 (by omega)⟩
          · first
            | (exfalso; omega)
            | exact Or.inr ⟨u, q, q1, by omega, q3, q4⟩
        · refine ld_a0 iX10_promised_82 ?_
          refine gf_X10_line kFX10_63 iX10_promised_83 ?_
          refine ld_i8 iX10_promised_86 ?_
          refine al_57 rfl (by omega) iX10_promised_88 ?_
          rw [b1.1]
          refine ld_l1 iX10_promised_89 ?_
          refine r_lclt iX10_promised_90 iX10_promised_91 (by omega) (by omega) (fun h90 => ?_) (fun h90 => ?_)
          · refine ld_i5 iX10_promised_99 ?_
            refine sv_i5 (by decide) rfl iX10_promised_101 ?_
            refine third _ _ hw1 ha' ?_
            rcases t2 with ⟨q, q1⟩ | ⟨u, q, q1, q2, q3, q4⟩
            · first
              | (exfalso; omega)
              | exact Or.inr ⟨w, rfl, by omega, by omega, by omega, q1⟩
              | exact Or.inl ⟨q, fun x x1 x2 => by by_cases eu : x = w; (rw [eu]; omega); exact q1 x x1 (by omega)⟩
            · first
              | (exfalso; omega)
              | exact Or.inr ⟨u, q, q1, by omega, q3, q4⟩
          · refine ld_i8 iX10_promised_94 ?_
            refine r_goto iX10_promised_96 ?_
            refine sv_i5 (by decide) rfl iX10_promised_101 ?_
            refine third _ _ hw1 ha' ?_
            rcases t2 with ⟨q, q1⟩ | ⟨u, q, q1, q2, q3, q4⟩
            · first
              | (exfalso; omega)
              | exact Or.inr ⟨w, rfl, by omega, by omega, by omega, q1⟩
              | exact Or.inl ⟨q, fun x x1 x2 => by by_cases eu : x = w; (rw [eu]; omega); exact q1 x x1 (by omega)⟩
            · first
              | (exfalso; omega)
              | exact Or.inr ⟨u, q, q1, by omega, q3, q4⟩
      refine ld_i8 iX10_promised_46 ?_
      refine r_sipush (by decide) iX10_promised_48 ?_
      refine r_icmpge iX10_promised_51 (by omega) (by omega) (fun h51 => ?_) (fun h51 => ?_)
      · have e : w = 10000 := by omega
        subst e
        refine ld_i3 iX10_promised_158 ?_
        refine r_ifne iX10_promised_159 (by omega) (fun h159 => ?_) (fun h159 => ?_)
        · refine ld_i3 iX10_promised_167 ?_
          refine r_iconst iX10_promised_168 ?_
          refine r_icmpne iX10_promised_169 (by omega) (by omega) (fun h169 => ?_) (fun h169 => ?_)
          · refine ld_i3 iX10_promised_177 ?_
            refine r_iconst iX10_promised_178 ?_
            refine r_icmpne iX10_promised_179 (by omega) (by omega) (fun h179 => ?_) (fun h179 => ?_)
            · refine ld_i7 iX10_promised_187 ?_
              refine t_int rfl iX10_promised_189 ?_
              first
                | exact hq1 h1 _ N2 ⟨fun _ => t1, fun q => by omega, fun q => by omega, fun q => by omega⟩ f1
                | exact hq1 h1 _ N2 ⟨fun q => by omega, fun _ => t2, fun q => by omega, fun q => by omega⟩ f1
                | exact hq1 h1 _ N2 ⟨fun q => by omega, fun q => by omega, fun _ => t3, fun q => by omega⟩ f1
                | exact hq1 h1 _ N2 ⟨fun q => by omega, fun q => by omega, fun q => by omega, fun _ => t4⟩ f1
            · refine ld_i6 iX10_promised_182 ?_
              refine r_goto iX10_promised_184 ?_
              refine t_int rfl iX10_promised_189 ?_
              first
                | exact hq1 h1 _ N2 ⟨fun _ => t1, fun q => by omega, fun q => by omega, fun q => by omega⟩ f1
                | exact hq1 h1 _ N2 ⟨fun q => by omega, fun _ => t2, fun q => by omega, fun q => by omega⟩ f1
                | exact hq1 h1 _ N2 ⟨fun q => by omega, fun q => by omega, fun _ => t3, fun q => by omega⟩ f1
                | exact hq1 h1 _ N2 ⟨fun q => by omega, fun q => by omega, fun q => by omega, fun _ => t4⟩ f1
          · refine ld_i5 iX10_promised_172 ?_
            refine r_goto iX10_promised_174 ?_
            refine t_int rfl iX10_promised_189 ?_
            first
              | exact hq1 h1 _ N2 ⟨fun _ => t1, fun q => by omega, fun q => by omega, fun q => by omega⟩ f1
              | exact hq1 h1 _ N2 ⟨fun q => by omega, fun _ => t2, fun q => by omega, fun q => by omega⟩ f1
              | exact hq1 h1 _ N2 ⟨fun q => by omega, fun q => by omega, fun _ => t3, fun q => by omega⟩ f1
              | exact hq1 h1 _ N2 ⟨fun q => by omega, fun q => by omega, fun q => by omega, fun _ => t4⟩ f1
        · refine ld_i4 iX10_promised_162 ?_
          refine r_goto iX10_promised_164 ?_
          refine t_int rfl iX10_promised_189 ?_
          first
            | exact hq1 h1 _ N2 ⟨fun _ => t1, fun q => by omega, fun q => by omega, fun q => by omega⟩ f1
            | exact hq1 h1 _ N2 ⟨fun q => by omega, fun _ => t2, fun q => by omega, fun q => by omega⟩ f1
            | exact hq1 h1 _ N2 ⟨fun q => by omega, fun q => by omega, fun _ => t3, fun q => by omega⟩ f1
            | exact hq1 h1 _ N2 ⟨fun q => by omega, fun q => by omega, fun q => by omega, fun _ => t4⟩ f1
      · have b1 := hL w (by omega)
        refine ld_i4 iX10_promised_54 ?_
        refine ld_a0 iX10_promised_56 ?_
        refine gf_X10_line kFX10_63 iX10_promised_57 ?_
        refine ld_i8 iX10_promised_60 ?_
        refine al_57 rfl (by omega) iX10_promised_62 ?_
        rw [b1.1]
        refine ld_l1 iX10_promised_63 ?_
        refine r_lcne iX10_promised_64 iX10_promised_65 (by omega) (by omega) (fun h64 => ?_) (fun h64 => ?_)
        · refine r_iconst iX10_promised_72 ?_
          refine r_iadd iX10_promised_73 ?_
          refine sv_i4 (by decide) rfl iX10_promised_74 ?_
          first
            | exact second _ (by omega) (by rw [ct, show decide (PD d w = v) = true from decide_eq_true h64, t1]; simp)
            | exact second _ (by omega) (by rw [ct, show decide (PD d w = v) = false from decide_eq_false h64, t1]; simp)
        · refine r_iconst iX10_promised_68 ?_
          refine r_goto iX10_promised_69 ?_
          refine r_iadd iX10_promised_73 ?_
          refine sv_i4 (by decide) rfl iX10_promised_74 ?_
          first
            | exact second _ (by omega) (by rw [ct, show decide (PD d w = v) = true from decide_eq_true h64, t1]; simp)
            | exact second _ (by omega) (by rw [ct, show decide (PD d w = v) = false from decide_eq_false h64, t1]; simp)
  refine ld_a0 iX10_promised_0 ?_
  refine r_iconst iX10_promised_1 ?_
  refine pf_X10_thrown kFX10_72 iX10_promised_2 ?_
  obtain ⟨N1, hN1, f0⟩ : ∃ N1, N1 = upN N 40 0 0 0 ∧ FrV N N1 := ⟨_, rfl, thr_v N⟩
  rw [← hN1]
  clear hN1
  have hM1 := hM.v f0
  have h22 : N1 40 0 22 = N 40 0 22 := f0 40 0 22 (by omega) (by omega)
  have h01 := hM1.1
  refine ld_a0 iX10_promised_5 ?_
  refine gf_X10_isDesk kFX10_165 iX10_promised_6 ?_
  refine r_ifeq iX10_promised_9 (by omega) (fun h9 => ?_) (fun h9 => ?_)
  · refine r_iconst iX10_promised_24 ?_
    refine t_int rfl iX10_promised_25 ?_
    exact hq0 (by omega) _ f0
  · refine ld_i3 iX10_promised_12 ?_
    refine r_i2l (by omega) iX10_promised_13 ?_
    refine r_lconst (v := 0) (by decide) iX10_promised_14 ?_
    refine r_ldc2 (z := 3) kKX10_239 (by decide) iX10_promised_15 ?_
    refine xX10_in kMX10_82 iX10_promised_18 (by decide) (Nat.le_of_ble_eq_true rfl) rfl rfl ?_
    refine c_in (by omega) (by omega) (by omega) ?_
    refine r_ifne iX10_promised_21 (by exact tf_r _) (fun h21 => ?_) (fun h21 => ?_)
    · have h21 := tf_y h21
      refine ld_a0 iX10_promised_26 ?_
      refine r_iconst iX10_promised_27 ?_
      refine xX10_laysLine kMX10_219 iX10_promised_28 (by decide) (Nat.le_of_ble_eq_true rfl) rfl rfl ?_
      refine c_laysLine hM1 (by omega) (by omega) (fun N2 e1 e2 => ?_)
      refine r_iconst iX10_promised_31 ?_
      refine sv_i4 (by decide) rfl iX10_promised_32 ?_
      refine r_iconst iX10_promised_34 ?_
      refine sv_i5 (by decide) rfl iX10_promised_35 ?_
      refine r_iconst iX10_promised_37 ?_
      refine sv_i6 (by decide) rfl iX10_promised_38 ?_
      refine r_iconst iX10_promised_40 ?_
      refine sv_i7 (by decide) rfl iX10_promised_41 ?_
      refine r_iconst iX10_promised_43 ?_
      refine sv_i8 (by decide) rfl iX10_promised_44 ?_
      exact loop N2 ⟨by omega, h21⟩ (f0.tr (e1.v (by omega) (by omega))) e2 10000 0 _ _ _ _ _ (by omega) (by omega) (by omega) ⟨rfl, Or.inl ⟨rfl, fun u _ hu => by omega⟩, Or.inl ⟨rfl, fun u hu => by omega⟩, Or.inl ⟨rfl, fun u hu => by omega⟩⟩
    · have h21 := tf_n h21
      refine r_iconst iX10_promised_24 ?_
      refine t_int rfl iX10_promised_25 ?_
      exact hq0 (by omega) _ f0
theorem m_cliff {i what : Int} {Pq : Int → Nm → Ge → Prop} (hM : MS N d) (ri : rI i) (rw' : rI what) (hq1 : N 40 0 22 = 1 ∧ 0 ≤ i ∧ (0 ≤ what ∧ what ≤ 3) → ∀ r N', clA (PD d) i what r → FrV N N' → Pq r N' g) (hq0 : ¬ (N 40 0 22 = 1 ∧ 0 ≤ i ∧ (0 ≤ what ∧ what ≤ 3)) → ∀ N', FrV N N' → Pq HID N' g) : Ck K YX10_cliff hX10_cliff [vr 40 0, vi i, vi what] N g (qL Pq) := by
  refine Ck.intro 2 (by decide) rfl ?_
  show AW _ _ _ _ _ [some (vr 40 0), some (vi i), some (vi what), none, none] _ _ _
  have loop : ∀ N2, N 40 0 22 = 1 ∧ 0 ≤ i ∧ (0 ≤ what ∧ what ≤ 3) → FrV N N2 → La N2 (PD d) → ∀ (n w : Nat) (t c : Int), 10000 - w = n → 1 ≤ w → w ≤ 10000 → c = w → t = ct (clB (PD d)) w → t ≤ i → AW K YX10_cliff hX10_cliff (qL Pq) 42 [some (vr 40 0), some (vi i), some (vi what), some (vi t), some (vi c)] [] N2 g := by
    intro N2 h1 f1 hL n
    induction n using Nat.strongRecOn with
    | _ n ih =>
      intro w t c e h0 hw hc ht hi
      subst hc
      have ctl := ct_le (clB (PD d)) w
      refine ld_i4 iX10_cliff_42 ?_
      refine r_sipush (by decide) iX10_cliff_44 ?_
      refine r_icmpge iX10_cliff_47 (by omega) (by omega) (fun h47 => ?_) (fun h47 => ?_)
      · refine r_ldc2 (z := -9000000000000000000) kKX10_254 (by decide) iX10_cliff_142 ?_
        refine t_long rfl iX10_cliff_145 ?_
        have e : w = 10000 := by omega
        subst e
        exact hq1 h1 _ N2 (Or.inl ⟨rfl, by omega⟩) f1
      · have b1 := hL w (by omega)
        have b2 := hL (w - 1) (by omega)
        refine ld_a0 iX10_cliff_50 ?_
        refine gf_X10_line kFX10_63 iX10_cliff_51 ?_
        refine ld_i4 iX10_cliff_54 ?_
        refine al_57 rfl (by omega) iX10_cliff_56 ?_
        rw [b1.1]
        refine ld_a0 iX10_cliff_57 ?_
        refine gf_X10_line kFX10_63 iX10_cliff_58 ?_
        refine ld_i4 iX10_cliff_61 ?_
        refine r_iconst iX10_cliff_63 ?_
        refine r_isub iX10_cliff_64 ?_
        refine al_57 (n := (w - 1)) (by omega) (by omega) iX10_cliff_65 ?_
        rw [b2.1]
        refine r_lcge iX10_cliff_66 iX10_cliff_67 (by omega) (by omega) (fun h66 => ?_) (fun h66 => ?_)
        · have hcb : clB (PD d) w = false := decide_eq_false (fun q => by omega)
          refine inc_4 (by decide) rfl iX10_cliff_136 ?_
          refine r_goto iX10_cliff_139 ?_
          first
            | exact ih (10000 - (w + 1)) (by omega) (w + 1) _ _ rfl (by omega) (by omega) (by omega) (by rw [ct, hcb, ht]; simp) (by omega)
        · have hcb : clB (PD d) w = true := decide_eq_true ⟨by omega, h66⟩
          refine ld_i3 iX10_cliff_70 ?_
          refine ld_i1 iX10_cliff_71 ?_
          refine r_icmpne iX10_cliff_72 (by omega) (by omega) (fun h72 => ?_) (fun h72 => ?_)
          · refine inc_3 (by decide) rfl iX10_cliff_133 ?_
            refine inc_4 (by decide) rfl iX10_cliff_136 ?_
            refine r_goto iX10_cliff_139 ?_
            first
              | exact ih (10000 - (w + 1)) (by omega) (w + 1) _ _ rfl (by omega) (by omega) (by omega) (by rw [ct, hcb, ht]; simp) (by omega)
          · refine ld_i2 iX10_cliff_75 ?_
            refine r_ifne iX10_cliff_76 (by omega) (fun h76 => ?_) (fun h76 => ?_)
            · refine ld_i2 iX10_cliff_85 ?_
              refine r_iconst iX10_cliff_86 ?_
              refine r_icmpne iX10_cliff_87 (by omega) (by omega) (fun h87 => ?_) (fun h87 => ?_)
              · refine ld_i2 iX10_cliff_110 ?_
                refine r_iconst iX10_cliff_111 ?_
                refine r_icmpne iX10_cliff_112 (by omega) (by omega) (fun h112 => ?_) (fun h112 => ?_)
                · refine ld_a0 iX10_cliff_125 ?_
                  refine ld_i4 iX10_cliff_126 ?_
                  refine xX10_trapOf kMX10_262 iX10_cliff_128 (by decide) (Nat.le_of_ble_eq_true rfl) rfl rfl ?_
                  refine c_trapOf hL (by omega) h66 (fun r hr => ?_)
                  have hrr : rI ((if r = -1 then 10000 else r) - (w : Int)) := by rcases hr with ⟨q, -⟩ | ⟨u, q, q1, q2, -⟩ <;> split <;> omega
                  refine r_i2l (by omega) iX10_cliff_131 ?_
                  refine t_long rfl iX10_cliff_132 ?_
                  first
                    | exact hq1 h1 _ N2 (Or.inr ⟨w, by omega, hcb, by omega, fun _ => rfl, fun q => by omega, fun q => by omega, fun q => by omega⟩) f1
                    | exact hq1 h1 _ N2 (Or.inr ⟨w, by omega, hcb, by omega, fun q => by omega, fun _ => rfl, fun q => by omega, fun q => by omega⟩) f1
                    | exact hq1 h1 _ N2 (Or.inr ⟨w, by omega, hcb, by omega, fun q => by omega, fun q => by omega, fun _ => hr, fun q => by omega⟩) f1
                    | exact hq1 h1 _ N2 (Or.inr ⟨w, by omega, hcb, by omega, fun q => by omega, fun q => by omega, fun q => by omega, fun _ => ⟨r, hr, rfl⟩⟩) f1
                · refine ld_a0 iX10_cliff_115 ?_
                  refine ld_i4 iX10_cliff_116 ?_
                  refine xX10_backFrom kMX10_259 iX10_cliff_118 (by decide) (Nat.le_of_ble_eq_true rfl) rfl rfl ?_
                  refine c_mBackFrom hL (by omega) h66 (fun r hr => ?_)
                  have hrr : rI r := by rcases hr with ⟨q, -⟩ | ⟨u, q, q1, q2, -⟩ <;> omega
                  refine r_i2l (by omega) iX10_cliff_121 ?_
                  refine r_goto iX10_cliff_122 ?_
                  refine t_long rfl iX10_cliff_132 ?_
                  first
                    | exact hq1 h1 _ N2 (Or.inr ⟨w, by omega, hcb, by omega, fun _ => rfl, fun q => by omega, fun q => by omega, fun q => by omega⟩) f1
                    | exact hq1 h1 _ N2 (Or.inr ⟨w, by omega, hcb, by omega, fun q => by omega, fun _ => rfl, fun q => by omega, fun q => by omega⟩) f1
                    | exact hq1 h1 _ N2 (Or.inr ⟨w, by omega, hcb, by omega, fun q => by omega, fun q => by omega, fun _ => hr, fun q => by omega⟩) f1
                    | exact hq1 h1 _ N2 (Or.inr ⟨w, by omega, hcb, by omega, fun q => by omega, fun q => by omega, fun q => by omega, fun _ => ⟨r, hr, rfl⟩⟩) f1
              · refine ld_a0 iX10_cliff_90 ?_
                refine gf_X10_line kFX10_63 iX10_cliff_91 ?_
                refine ld_i4 iX10_cliff_94 ?_
                refine r_iconst iX10_cliff_96 ?_
                refine r_isub iX10_cliff_97 ?_
                refine al_57 (n := (w - 1)) (by omega) (by omega) iX10_cliff_98 ?_
                rw [b2.1]
                refine ld_a0 iX10_cliff_99 ?_
                refine gf_X10_line kFX10_63 iX10_cliff_100 ?_
                refine ld_i4 iX10_cliff_103 ?_
                refine al_57 rfl (by omega) iX10_cliff_105 ?_
                rw [b1.1]
                refine r_lsub iX10_cliff_106 ?_
                refine r_goto iX10_cliff_107 ?_
                refine t_long rfl iX10_cliff_132 ?_
                first
                  | exact hq1 h1 _ N2 (Or.inr ⟨w, by omega, hcb, by omega, fun _ => rfl, fun q => by omega, fun q => by omega, fun q => by omega⟩) f1
                  | exact hq1 h1 _ N2 (Or.inr ⟨w, by omega, hcb, by omega, fun q => by omega, fun _ => rfl, fun q => by omega, fun q => by omega⟩) f1
                  | exact hq1 h1 _ N2 (Or.inr ⟨w, by omega, hcb, by omega, fun q => by omega, fun q => by omega, fun _ => hr, fun q => by omega⟩) f1
                  | exact hq1 h1 _ N2 (Or.inr ⟨w, by omega, hcb, by omega, fun q => by omega, fun q => by omega, fun q => by omega, fun _ => ⟨r, hr, rfl⟩⟩) f1
            · refine ld_i4 iX10_cliff_79 ?_
              refine r_i2l (by omega) iX10_cliff_81 ?_
              refine r_goto iX10_cliff_82 ?_
              refine t_long rfl iX10_cliff_132 ?_
              first
                | exact hq1 h1 _ N2 (Or.inr ⟨w, by omega, hcb, by omega, fun _ => rfl, fun q => by omega, fun q => by omega, fun q => by omega⟩) f1
                | exact hq1 h1 _ N2 (Or.inr ⟨w, by omega, hcb, by omega, fun q => by omega, fun _ => rfl, fun q => by omega, fun q => by omega⟩) f1
                | exact hq1 h1 _ N2 (Or.inr ⟨w, by omega, hcb, by omega, fun q => by omega, fun q => by omega, fun _ => hr, fun q => by omega⟩) f1
                | exact hq1 h1 _ N2 (Or.inr ⟨w, by omega, hcb, by omega, fun q => by omega, fun q => by omega, fun q => by omega, fun _ => ⟨r, hr, rfl⟩⟩) f1
  refine ld_a0 iX10_cliff_0 ?_
  refine r_iconst iX10_cliff_1 ?_
  refine pf_X10_thrown kFX10_72 iX10_cliff_2 ?_
  obtain ⟨N1, hN1, f0⟩ : ∃ N1, N1 = upN N 40 0 0 0 ∧ FrV N N1 := ⟨_, rfl, thr_v N⟩
  rw [← hN1]
  clear hN1
  have hM1 := hM.v f0
  have h22 : N1 40 0 22 = N 40 0 22 := f0 40 0 22 (by omega) (by omega)
  have h01 := hM1.1
  refine ld_a0 iX10_cliff_5 ?_
  refine gf_X10_isDesk kFX10_165 iX10_cliff_6 ?_
  refine r_ifeq iX10_cliff_9 (by omega) (fun h9 => ?_) (fun h9 => ?_)
  · refine r_ldc2 (z := -9000000000000000000) kKX10_254 (by decide) iX10_cliff_28 ?_
    refine t_long rfl iX10_cliff_31 ?_
    exact hq0 (by omega) _ f0
  · refine ld_i1 iX10_cliff_12 ?_
    refine r_iflt iX10_cliff_13 (by omega) (fun h13 => ?_) (fun h13 => ?_)
    · refine r_ldc2 (z := -9000000000000000000) kKX10_254 (by decide) iX10_cliff_28 ?_
      refine t_long rfl iX10_cliff_31 ?_
      exact hq0 (by omega) _ f0
    · refine ld_i2 iX10_cliff_16 ?_
      refine r_i2l (by omega) iX10_cliff_17 ?_
      refine r_lconst (v := 0) (by decide) iX10_cliff_18 ?_
      refine r_ldc2 (z := 3) kKX10_239 (by decide) iX10_cliff_19 ?_
      refine xX10_in kMX10_82 iX10_cliff_22 (by decide) (Nat.le_of_ble_eq_true rfl) rfl rfl ?_
      refine c_in (by omega) (by omega) (by omega) ?_
      refine r_ifne iX10_cliff_25 (by exact tf_r _) (fun h25 => ?_) (fun h25 => ?_)
      · have h25 := tf_y h25
        refine ld_a0 iX10_cliff_32 ?_
        refine r_iconst iX10_cliff_33 ?_
        refine xX10_laysLine kMX10_219 iX10_cliff_34 (by decide) (Nat.le_of_ble_eq_true rfl) rfl rfl ?_
        refine c_laysLine hM1 (by omega) (by omega) (fun N2 e1 e2 => ?_)
        refine r_iconst iX10_cliff_37 ?_
        refine sv_i3 (by decide) rfl iX10_cliff_38 ?_
        refine r_iconst iX10_cliff_39 ?_
        refine sv_i4 (by decide) rfl iX10_cliff_40 ?_
        exact loop N2 ⟨by omega, by omega, h25⟩ (f0.tr (e1.v (by omega) (by omega))) e2 9999 1 _ _ (by omega) (by omega) (by omega) (by omega) (by rw [ct, ct, show clB (PD d) 0 = false from decide_eq_false (fun q => by omega)]; rfl) (by omega)
      · have h25 := tf_n h25
        refine r_ldc2 (z := -9000000000000000000) kKX10_254 (by decide) iX10_cliff_28 ?_
        refine t_long rfl iX10_cliff_31 ?_
        exact hq0 (by omega) _ f0
end MAsk3
