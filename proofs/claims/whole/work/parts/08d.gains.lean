/-! own text: how far a desk runs straight -/
section Fill9
variable {K : Kx} {N : Nm} {g : Ge}
theorem c_fill {k i L : Nat} {v : Int} {Pq : Nm → Ge → Prop} (hk : kd k = (1, 0)) (hl : ln g k i = L) (hL : L ≤ 1000) (hq : ∀ N', (∀ k' a j, ¬ (k' = k ∧ a = i) → N' k' a j = N k' a j) → (∀ j, j < L → N' k i j = v) → Pq N' g) : Ck K YJ7_fill_53178 hJ7_fill_53178 [vr k i, vi v] N g (qV Pq) := by
  refine Ck.introF 2 (by decide +kernel) rfl ?_
  show AW _ _ _ _ _ [some (vr k i), some (vi v), none, none] _ _ _
  have loop : ∀ (n p : Nat) (c : Int) (N' : Nm), L - p = n → p ≤ L → c = p → (∀ k' a j, ¬ (k' = k ∧ a = i) → N' k' a j = N k' a j) → (∀ j, j < p → N' k i j = v) → AW K YJ7_fill_53178 hJ7_fill_53178 (qV Pq) 5 [some (vr k i), some (vi v), some (vi c), some (vi L)] [] N' g := by
    intro n
    induction n using Nat.strongRecOn with
    | _ n ih =>
      intro p c N' e hp hc h1 h2
      subst hc
      refine ld_i2 iJ7_fill_53178_5 ?_
      refine ld_i3 iJ7_fill_53178_6 ?_
      refine r_icmpge iJ7_fill_53178_7 (by omega) (by omega) (fun h7 => ?_) (fun h7 => ?_)
      · refine t_void rfl iJ7_fill_53178_20 ?_
        exact hq N' h1 (fun j hj => h2 j (by omega))
      · refine ld_a0 iJ7_fill_53178_10 ?_
        refine ld_i2 iJ7_fill_53178_11 ?_
        refine ld_i1 iJ7_fill_53178_12 ?_
        refine r_iast (n := p) rfl (by omega) (by omega) hk iJ7_fill_53178_13 ?_
        refine inc_2 (by decide) rfl iJ7_fill_53178_14 ?_
        refine r_goto iJ7_fill_53178_17 ?_
        refine ih (L - (p + 1)) (by omega) (p + 1) _ _ rfl (by omega) (by omega) (fun k' a j q => ?_) (fun j hj => ?_)
        · rw [← h1 k' a j q]; exact if_neg (fun z => q ⟨z.1, z.2.1⟩)
        · by_cases e : j = p
          · rw [e, upN_eq]
          · rw [upN_j e]; exact h2 j (by omega)
  refine r_iconst iJ7_fill_53178_0 ?_
  refine sv_i2 (by decide) rfl iJ7_fill_53178_1 ?_
  refine ld_a0 iJ7_fill_53178_2 ?_
  refine r_alen (c := 0) (Or.inl hk) (Or.inl rfl) iJ7_fill_53178_3 ?_
  rw [hl]
  refine sv_i3 (by decide) rfl iJ7_fill_53178_4 ?_
  exact loop L 0 _ N (by omega) (by omega) (by omega) (fun _ _ _ _ => rfl) (fun j hj => by omega)
end Fill9
/-! gains -/
def gsm (d : Dk) (gn : Nat → Int) (r : Nat) : Nat → Int
  | 0 => 0
  | n + 1 => gsm d gn r n + dG d r n * (if dM d r n = 6 then 1000000000 else if dM d r n = 7 then 0 else gn (dM d r n))
def gst (d : Dk) (gn : Nat → Int) (r : Nat) : Int := gsm d gn r (dT d r)
theorem gsm_cong {d : Dk} {v v' : Nat → Int} {r : Nat} : ∀ n, (∀ j, j < n → dM d r j ≠ 6 → dM d r j ≠ 7 → v (dM d r j) = v' (dM d r j)) → gsm d v r n = gsm d v' r n
  | 0, _ => rfl
  | n + 1, h => by
    rw [gsm, gsm, gsm_cong n (fun j hj => h j (by omega))]
    by_cases e1 : dM d r n = 6
    · rw [if_pos e1, if_pos e1]
    · rw [if_neg e1, if_neg e1]
      by_cases e2 : dM d r n = 7
      · rw [if_pos e2, if_pos e2]
      · rw [if_neg e2, if_neg e2, h n (by omega) e1 e2]
theorem gst_cong {d : Dk} {v v' : Nat → Int} {r : Nat} (hT : WT d r) (h : ∀ k, k < dA d → (r < 6 → k < r) → v k = v' k) : gst d v r = gst d v' r := by
  refine gsm_cong _ (fun j hj e1 e2 => ?_)
  have := (hT.2.2 j hj).2
  exact h _ (by omega) (fun q => by omega)
def IsG (d : Dk) (S gn : Nat → Int) (n : Nat) : Prop := ∀ a, a < n → gn a = if S a < 0 then 0 else (gst d gn a).tdiv 1000 * dL d a (segV d a (S a))
theorem gsm_bd {d : Dk} {gn : Nat → Int} {r : Nat} {B : Int} (hB : 1000000000 ≤ B) : ∀ n, (∀ j, j < n → (dG d r j = 1 ∨ dG d r j = -1) ∧ (dM d r j ≠ 6 → dM d r j ≠ 7 → -B ≤ gn (dM d r j) ∧ gn (dM d r j) ≤ B)) → -(n * B) ≤ gsm d gn r n ∧ gsm d gn r n ≤ n * B
  | 0, _ => by simp [gsm]
  | n + 1, h => by
    have ih := gsm_bd hB n (fun j hj => h j (by omega))
    obtain ⟨h1, h2⟩ := h n (by omega)
    rw [gsm, show ((n + 1 : Nat) : Int) = (n : Int) + 1 by omega, lin_step]
    by_cases e1 : dM d r n = 6
    · rw [if_pos e1]; rcases h1 with e | e <;> rw [e] <;> omega
    · rw [if_neg e1]
      by_cases e2 : dM d r n = 7
      · rw [if_pos e2]; rcases h1 with e | e <;> rw [e] <;> omega
      · rw [if_neg e2]
        have := h2 e1 e2
        rcases h1 with e | e <;> rw [e] <;> omega
theorem dv_tm {D g x : Int} (hx : D ∣ x) (hg : g = 1 ∨ g = -1) : D ∣ g * x := by
  rcases hg with e | e <;> rw [e]
  · rw [Int.one_mul]; exact hx
  · rw [Int.neg_mul, Int.one_mul]; exact (Int.dvd_neg).mpr hx
theorem gsm_dv {d : Dk} {gn : Nat → Int} {r : Nat} {D : Int} (hD : D ∣ 1000000000) : ∀ n, (∀ j, j < n → (dG d r j = 1 ∨ dG d r j = -1) ∧ (dM d r j ≠ 6 → dM d r j ≠ 7 → D ∣ gn (dM d r j))) → D ∣ gsm d gn r n
  | 0, _ => ⟨0, by simp [gsm]⟩
  | n + 1, h => by
    have ih := gsm_dv hD n (fun j hj => h j (by omega))
    obtain ⟨h1, h2⟩ := h n (by omega)
    rw [gsm]
    refine Int.dvd_add ih (dv_tm ?_ h1)
    by_cases e1 : dM d r n = 6
    · rw [if_pos e1]; exact hD
    · rw [if_neg e1]
      by_cases e2 : dM d r n = 7
      · rw [if_pos e2]; exact ⟨0, by simp⟩
      · rw [if_neg e2]; exact h2 e1 e2
def DV (p : Nat) : Int := match p with
  | 0 => 1000000000000
  | 1 => 1000000000
  | 2 => 1000000
  | 3 => 1000
  | _ => 1
def HB (p : Nat) : Int := match p with
  | 0 => 1000000000
  | 1 => 12000000000
  | 2 => 144000000000
  | _ => 1728000000000
theorem DV_dv {p q : Nat} (h : p ≤ q) (hq : q ≤ 3) : DV q ∣ DV p := by
  rcases (show q = 0 ∨ q = 1 ∨ q = 2 ∨ q = 3 by omega) with e | e | e | e <;> subst e <;>
  rcases (show p = 0 ∨ p = 1 ∨ p = 2 ∨ p = 3 by omega) with e | e | e | e <;> subst e <;> first | omega | decide
theorem HB_le {p q : Nat} (h : p ≤ q) (hq : q ≤ 3) : HB p ≤ HB q := by
  rcases (show q = 0 ∨ q = 1 ∨ q = 2 ∨ q = 3 by omega) with e | e | e | e <;> subst e <;>
  rcases (show p = 0 ∨ p = 1 ∨ p = 2 ∨ p = 3 by omega) with e | e | e | e <;> subst e <;> first | omega | decide
/-- gains are no more than so much and the sums' gains may be halved so often -/
theorem gn_bd {d : Dk} (hW : WD d) {S gn : Nat → Int} : ∀ n, n ≤ dA d → IsG d S gn n → ∀ a, a < n → (-(HB (dD d a)) ≤ gn a ∧ gn a ≤ HB (dD d a)) ∧ DV (dD d a + 1) ∣ gn a ∧ (-(6 * HB (dD d a - 1)) ≤ gst d gn a ∧ gst d gn a ≤ 6 * HB (dD d a - 1)) ∧ DV (dD d a) ∣ gst d gn a
  | 0, _, _, a, ha => by omega
  | n + 1, hn, hG, a, ha => by
    have ih := gn_bd hW n (by omega) (fun a ha => hG a (by omega))
    rcases Nat.lt_or_ge a n with q | q
    · exact ih a q
    · have e : a = n := by omega
      subst e
      obtain ⟨hS, hT, hD1, hD2⟩ := hW.2.2.1 a hn
      have hA := hW.1
      have hg := hG a (by omega)
      have hst : -(6 * HB (dD d a - 1)) ≤ gst d gn a ∧ gst d gn a ≤ 6 * HB (dD d a - 1) := by
        have h0 : 1000000000 ≤ HB (dD d a - 1) := HB_le (p := 0) (q := dD d a - 1) (by omega) (by omega)
        have hb1 := gsm_bd (d := d) (gn := gn) (r := a) h0 (dT d a) (fun j hj => by
          obtain ⟨g1, g2⟩ := hT.2.2 j hj
          refine ⟨g1, fun e1 e2 => ?_⟩
          have z := (g2.resolve_left e1).resolve_left e2
          have z2 := z.2 (by omega)
          have y := (ih (dM d a j) z2.1).1
          have y2 := HB_le (p := dD d (dM d a j)) (q := dD d a - 1) (by omega) (by omega)
          omega)
        have h6 := hT.2.1
        have y1 := mul_mono (show (dT d a : Int) ≤ 6 by omega) (show 0 ≤ HB (dD d a - 1) by omega)
        unfold gst
        omega
      have hdv : DV (dD d a) ∣ gst d gn a := by
        refine gsm_dv (DV_dv (p := 1) hD1 hD2) (dT d a) (fun j hj => ?_)
        obtain ⟨g1, g2⟩ := hT.2.2 j hj
        refine ⟨g1, fun e1 e2 => ?_⟩
        have z := (g2.resolve_left e1).resolve_left e2
        have z2 := z.2 (by omega)
        have y := (ih (dM d a j) z2.1).2.1
        exact Int.dvd_trans (DV_dv (by omega) hD2) y
      have hL := (hS.2.2.2.2 _ (segV_lt hS (S a))).2.2
      have hcs := (show dD d a = 1 ∨ dD d a = 2 ∨ dD d a = 3 by omega)
      generalize dL d a (segV d a (S a)) = L at hL hg
      generalize hX : gst d gn a = X at hst hdv hg
      refine ⟨?_, ?_, hst, hdv⟩
      · rw [hg]
        have h0 : 0 ≤ HB (dD d a) := by
          have : 1000000000 ≤ HB (dD d a) := HB_le (p := 0) (q := dD d a) (by omega) (by omega)
          omega
        split
        · omega
        · obtain ⟨M, m1, m2, m3⟩ : ∃ M : Int, 6 * HB (dD d a - 1) = 1000 * M ∧ M * 1999 ≤ HB (dD d a) ∧ 0 ≤ M := by
            rcases hcs with e | e | e <;> rw [e]
            · exact ⟨6000000, by decide, by decide, by decide⟩
            · exact ⟨72000000, by decide, by decide, by decide⟩
            · exact ⟨864000000, by decide, by decide, by decide⟩
          obtain ⟨z, hz⟩ : (1000 : Int) ∣ X := Int.dvd_trans (DV_dv (q := 3) hD2 (by omega)) hdv
          rw [hz, Int.mul_tdiv_cancel_left z (by omega)]
          have t1 := Int.mul_le_mul_of_nonneg_left hL.2 m3
          have t5 := mul_mono (show z ≤ M by omega) hL.1
          have t6 := mul_mono (show -M ≤ z by omega) hL.1
          rw [Int.neg_mul] at t6
          omega
      · rw [hg]
        split
        · exact ⟨0, by simp⟩
        · refine Int.dvd_trans ?_ (Int.dvd_mul_right _ _)
          obtain ⟨z, hz⟩ : (1000 : Int) ∣ X := Int.dvd_trans (DV_dv (q := 3) hD2 (by omega)) hdv
          rw [hz] at hdv
          rw [hz, Int.mul_tdiv_cancel_left z (by omega)]
          rcases hcs with e | e | e <;> rw [e] at hdv ⊢ <;> simp only [DV] at hdv ⊢ <;> omega
theorem gn6_bd {d : Dk} (hW : WD d) {S gn : Nat → Int} (hG : IsG d S gn (dA d)) : -10368000000000 ≤ gst d gn 6 ∧ gst d gn 6 ≤ 10368000000000 := by
  have ih := gn_bd hW (dA d) (Nat.le_refl _) hG
  have hT := hW.2.2.2
  have hA := hW.1
  have hb1 := gsm_bd (d := d) (gn := gn) (r := 6) (B := 1728000000000) (by omega) (dT d 6) (fun j hj => by
    obtain ⟨g1, g2⟩ := hT.2.2 j hj
    refine ⟨g1, fun e1 e2 => ?_⟩
    have z := (g2.resolve_left e1).resolve_left e2
    have y := (ih (dM d 6 j) z.1).1
    have y2 := HB_le (p := dD d (dM d 6 j)) (q := 3) (hW.2.2.1 _ z.1).2.2.2 (by omega)
    have y3 : HB 3 = 1728000000000 := rfl
    omega)
  have h6 := hT.2.1
  have y1 := mul_mono (show (dT d 6 : Int) ≤ 6 by omega) (show (0 : Int) ≤ 1728000000000 by omega)
  unfold gst
  omega
/-! how far -/
def rc (d : Dk) (a : Nat) (S t : Int) : Int := if 0 < t then (if S < 0 then (-1 - S).tdiv t else if segV d a S + 1 = dS d a then 9999 else (dF d a (segV d a S + 1) * 1000000000 - 1 - S).tdiv t) else if t < 0 ∧ 0 ≤ S then (S - dF d a (segV d a S) * 1000000000).tdiv (-t) else 9999
theorem dF_mono {d : Dk} {a : Nat} (h : WS d a) : ∀ q, q < dS d a → ∀ p, p < q → dF d a p < dF d a q
  | 0, _, p, hp => by omega
  | q + 1, hq, p, hp => by
    have e1 := h.2.2.2.1 q hq
    rcases Nat.lt_or_ge p q with e | e
    · have := dF_mono h q (by omega) p e; omega
    · rw [show p = q by omega]; exact e1
theorem sgf_hi {d : Dk} {a : Nat} {c : Int} : ∀ q, sgf d a c q < q → c < dF d a (sgf d a c q + 1) * 1000000000
  | 0, h => by omega
  | q + 1, h => by
    rw [sgf] at h ⊢
    by_cases e : c < dF d a (q + 1) * 1000000000
    · rw [if_pos e] at h ⊢
      rcases Nat.lt_or_ge (sgf d a c q) q with z | z
      · exact sgf_hi q z
      · have := sgf_le d a c q
        rw [show sgf d a c q = q by omega]; exact e
    · rw [if_neg e] at h; omega
theorem sgf_eq {d : Dk} {a : Nat} (h : WS d a) {c : Int} {p : Nat} (h1 : dF d a p * 1000000000 ≤ c) : ∀ q, q < dS d a → p ≤ q → (p < q → c < dF d a (p + 1) * 1000000000) → sgf d a c q = p
  | 0, _, hp, _ => by rw [sgf]; omega
  | q + 1, hq, hp, h2 => by
    rw [sgf]
    rcases Nat.lt_or_ge p (q + 1) with e | e
    · have h3 := h2 e
      have : dF d a (p + 1) ≤ dF d a (q + 1) := by
        rcases Nat.lt_or_ge p q with z | z
        · have := dF_mono h (q + 1) hq (p + 1) (by omega); omega
        · rw [show p = q by omega]; omega
      rw [if_pos (by omega)]
      exact sgf_eq h h1 q (by omega) (by omega) (fun _ => h3)
    · rw [show p = q + 1 by omega] at h1 ⊢
      rw [if_neg (by omega)]
theorem segV_eq {d : Dk} {a : Nat} (h : WS d a) {s : Int} {p : Nat} (hp : p < dS d a) (h1 : dF d a p * 1000000000 ≤ max s 0) (h2 : p + 1 < dS d a → max s 0 < dF d a (p + 1) * 1000000000) : segV d a s = p := sgf_eq h h1 (dS d a - 1) (by omega) (by omega) (fun q => h2 (by omega))
theorem segV_hi {d : Dk} {a : Nat} {s : Int} (hp : segV d a s + 1 < dS d a) : max s 0 < dF d a (segV d a s + 1) * 1000000000 := sgf_hi (dS d a - 1) (by unfold segV at hp; omega)
theorem rc_ok {d : Dk} {a : Nat} (h : WS d a) {S t k : Int} (hk : 0 ≤ k) (hr : k ≤ rc d a S t) (hd : 1000 ∣ t) : segV d a (S + k * t) = segV d a S ∧ lnV d a (S + k * t) = lnV d a S + k * (if S < 0 then 0 else t.tdiv 1000 * dL d a (segV d a S)) := by
  have hlt := segV_lt h S
  have hfr : dF d a (segV d a S) * 1000000000 ≤ max S 0 := sgf_fr h (by omega) _
  have hhi := @segV_hi d a S
  unfold rc at hr
  have key : (S < 0 → S + k * t < 0) ∧ (0 ≤ S → dF d a (segV d a S) * 1000000000 ≤ S + k * t ∧ (segV d a S + 1 < dS d a → S + k * t < dF d a (segV d a S + 1) * 1000000000)) := by
    have y1 : 0 < t → 0 ≤ k * t := fun q => Int.mul_nonneg hk (by omega)
    by_cases e1 : 0 < t
    · rw [if_pos e1] at hr
      have y1 := y1 e1
      by_cases e2 : S < 0
      · rw [if_pos e2, Int.tdiv_eq_ediv_of_nonneg (by omega)] at hr
        have y2 := (Int.le_ediv_iff_mul_le e1).mp hr
        exact ⟨fun _ => by omega, fun q => by omega⟩
      · rw [if_neg e2] at hr
        refine ⟨fun q => by omega, fun _ => ⟨by omega, fun q => ?_⟩⟩
        rw [if_neg (by omega)] at hr
        have := hhi q
        rw [Int.tdiv_eq_ediv_of_nonneg (by omega)] at hr
        have y2 := (Int.le_ediv_iff_mul_le e1).mp hr
        omega
    · rw [if_neg e1] at hr
      have y3 : k * t ≤ 0 := Int.mul_nonpos_of_nonneg_of_nonpos hk (by omega)
      by_cases e2 : 0 ≤ S
      · refine ⟨fun q => by omega, fun _ => ⟨?_, fun q => by have := hhi q; omega⟩⟩
        by_cases e3 : t < 0
        · rw [if_pos ⟨e3, e2⟩, Int.tdiv_eq_ediv_of_nonneg (by omega)] at hr
          have y2 := (Int.le_ediv_iff_mul_le (show 0 < -t by omega)).mp hr
          rw [Int.mul_neg] at y2
          omega
        · rw [show t = 0 by omega, Int.mul_zero]; omega
      · exact ⟨fun _ => by omega, fun q => by omega⟩
  have hseg : segV d a (S + k * t) = segV d a S := by
    rcases Int.lt_or_le S 0 with q | q
    · have := key.1 q
      refine segV_eq h hlt (by omega) (fun z => by have := hhi z; omega)
    · have := key.2 q
      refine segV_eq h hlt (by omega) (fun z => by have := this.2 z; have := hhi z; omega)
  refine ⟨hseg, ?_⟩
  unfold lnV
  rw [hseg]
  rcases Int.lt_or_le S 0 with q | q
  · have := key.1 q
    rw [if_pos q, show max (S + k * t) 0 = 0 by omega, show max S 0 = 0 by omega]; omega
  · obtain ⟨z, hz⟩ := hd
    have := (key.2 q).1
    have hf := (h.2.2.2.2 _ hlt).1
    rw [if_neg (by omega), show max (S + k * t) 0 = S + k * t by omega, show max S 0 = S by omega, Int.tdiv_eq_ediv_of_nonneg (by omega), Int.tdiv_eq_ediv_of_nonneg (by omega)]
    have e1 : t.tdiv 1000 = z := by rw [hz]; exact Int.mul_tdiv_cancel_left z (by omega)
    have e2 : S + k * t - dF d a (segV d a S) * 1000000000 = S - dF d a (segV d a S) * 1000000000 + 1000 * (k * z) := by
      rw [hz, show k * (1000 * z) = 1000 * (k * z) from Int.mul_left_comm k 1000 z]; omega
    rw [e1, e2, Int.add_mul_ediv_left _ _ (by omega), Int.add_mul, Int.mul_assoc]
    omega
theorem smV_lin {d : Dk} {b w k : Int} {v v' gn : Nat → Int} {r : Nat} : ∀ n, (∀ j, j < n → dM d r j ≠ 6 → dM d r j ≠ 7 → v' (dM d r j) = v (dM d r j) + k * gn (dM d r j)) → smV d b (w + k) v' r n = smV d b w v r n + k * gsm d gn r n
  | 0, _ => by simp [smV, gsm]
  | n + 1, h => by
    rw [smV, smV, gsm, smV_lin n (fun j hj => h j (by omega))]
    unfold trm
    have e : ∀ x y z s : Int, x + k * y + s * (z + k * 0) = x + s * z + k * (y + s * 0) := by intro x y z s; simp; omega
    by_cases e1 : dM d r n = 6
    · rw [if_pos e1, if_pos e1, if_pos e1, Int.add_mul, Int.mul_add (dG d r n), Int.mul_add k, Int.mul_left_comm k]; omega
    · rw [if_neg e1, if_neg e1, if_neg e1]
      by_cases e2 : dM d r n = 7
      · rw [if_pos e2, if_pos e2, if_pos e2, Int.mul_zero, Int.add_zero]; omega
      · rw [if_neg e2, if_neg e2, if_neg e2, h n (by omega) e1 e2, Int.mul_add (dG d r n), Int.mul_add k, Int.mul_left_comm k]; omega
/-- as far as every account reaches, everything runs straight -/
theorem stretch {d : Dk} (hW : WD d) {b w k : Int} {gn : Nat → Int} (hk : 0 ≤ k) (hG : IsG d (fun a => sumV d b w (VA d b (-1) 0 w) a) gn (dA d)) (hr : ∀ a, a < dA d → k ≤ rc d a (sumV d b w (VA d b (-1) 0 w) a) (gst d gn a)) :
    (∀ n, n ≤ dA d → ∀ a, a < n → VA d b (-1) 0 (w + k) a = VA d b (-1) 0 w a + k * gn a ∧ segV d a (sumV d b (w + k) (VA d b (-1) 0 (w + k)) a) = segV d a (sumV d b w (VA d b (-1) 0 w) a)) := by
  intro n
  induction n with
  | zero => intro _ a ha; omega
  | succ n ih =>
    intro hn a ha
    have ih := ih (by omega)
    rcases Nat.lt_or_ge a n with q | q
    · exact ih a q
    · have e : a = n := by omega
      subst e
      obtain ⟨hS, hT, hD1, hD2⟩ := hW.2.2.1 a hn
      have hA := hW.1
      have hb := gn_bd hW (dA d) (Nat.le_refl _) hG a hn
      have hsum : sumV d b (w + k) (VA d b (-1) 0 (w + k)) a = sumV d b w (VA d b (-1) 0 w) a + k * gst d gn a := smV_lin _ (fun j hj e1 e2 => by
        have z := ((hT.2.2 j hj).2.resolve_left e1).resolve_left e2
        exact (ih _ (z.2 (by omega)).1).1)
      have hdv : (1000 : Int) ∣ gst d gn a := Int.dvd_trans (DV_dv (q := 3) hD2 (by omega)) hb.2.2.2
      have h1 := rc_ok hS hk (hr a hn) hdv
      have hg := hG a hn
      simp only at hg
      rw [VA_eq hW b (-1) 0 (w + k) hn, VA_eq hW b (-1) 0 w hn, if_neg (by omega), if_neg (by omega), hsum, hg]
      exact ⟨h1.2, h1.1⟩
theorem stretch6 {d : Dk} (hW : WD d) {b w k : Int} {gn : Nat → Int} (hk : 0 ≤ k) (hG : IsG d (fun a => sumV d b w (VA d b (-1) 0 w) a) gn (dA d)) (hr : ∀ a, a < dA d → k ≤ rc d a (sumV d b w (VA d b (-1) 0 w) a) (gst d gn a)) : paid d b (-1) 0 (w + k) = paid d b (-1) 0 w + k * gst d gn 6 := by
  refine smV_lin _ (fun j hj e1 e2 => ?_)
  have z := ((hW.2.2.2.2.2 j hj).2.resolve_left e1).resolve_left e2
  exact (stretch hW hk hG hr (dA d) (Nat.le_refl _) _ z.1).1
