/-! own text: what a desk is, and what comes of a wage -/
/-- accounts, benefit, numbers of terms, signs, what they are (0..5 an account, 6 the wage, 7 the benefit), numbers of segments, FROM, AT (-1: none), SLOPE, depth -/
abbrev Dk : Type := Nat × Int × (Nat → Nat) × (Nat → Nat → Int) × (Nat → Nat → Nat) × (Nat → Nat) × (Nat → Nat → Int) × (Nat → Nat → Int) × (Nat → Nat → Int) × (Nat → Nat)
def dA (d : Dk) : Nat := d.1
def dB (d : Dk) : Int := d.2.1
def dT (d : Dk) (r : Nat) : Nat := d.2.2.1 r
def dG (d : Dk) (r j : Nat) : Int := d.2.2.2.1 r j
def dM (d : Dk) (r j : Nat) : Nat := d.2.2.2.2.1 r j
def dS (d : Dk) (a : Nat) : Nat := d.2.2.2.2.2.1 a
def dF (d : Dk) (a q : Nat) : Int := d.2.2.2.2.2.2.1 a q
def dE (d : Dk) (a q : Nat) : Int := d.2.2.2.2.2.2.2.1 a q
def dL (d : Dk) (a q : Nat) : Int := d.2.2.2.2.2.2.2.2.1 a q
def dD (d : Dk) (a : Nat) : Nat := d.2.2.2.2.2.2.2.2.2 a
/-- the segments of an account are as the document wants -/
def WS (d : Dk) (a : Nat) : Prop := 1 ≤ dS d a ∧ dS d a ≤ 6 ∧ dF d a 0 = 0 ∧ (∀ q, q + 1 < dS d a → dF d a q < dF d a (q + 1)) ∧ ∀ q, q < dS d a → (0 ≤ dF d a q ∧ dF d a q ≤ 9999) ∧ (-1 ≤ dE d a q ∧ dE d a q ≤ 9999) ∧ (0 ≤ dL d a q ∧ dL d a q ≤ 1999)
/-- the terms of a row -/
def WT (d : Dk) (r : Nat) : Prop := 1 ≤ dT d r ∧ dT d r ≤ 6 ∧ ∀ j, j < dT d r → (dG d r j = 1 ∨ dG d r j = -1) ∧ (dM d r j = 6 ∨ dM d r j = 7 ∨ (dM d r j < dA d ∧ (r < 6 → dM d r j < r ∧ dD d (dM d r j) < dD d r)))
def WD (d : Dk) : Prop := dA d ≤ 6 ∧ (0 ≤ dB d ∧ dB d ≤ 999) ∧ (∀ a, a < dA d → WS d a ∧ WT d a ∧ 1 ≤ dD d a ∧ dD d a ≤ 3) ∧ WT d 6
/-- what a segment begins with -/
def bas (d : Dk) (a : Nat) : Nat → Int
  | 0 => if dE d a 0 = -1 then 0 else dE d a 0 * 1000000000
  | q + 1 => if dE d a (q + 1) = -1 then bas d a q + (dF d a (q + 1) - dF d a q) * dL d a q * 1000000 else dE d a (q + 1) * 1000000000
/-- the last segment, of 0 .. q, whose FROM is no more than c -/
def sgf (d : Dk) (a : Nat) (c : Int) : Nat → Nat
  | 0 => 0
  | q + 1 => if c < dF d a (q + 1) * 1000000000 then sgf d a c q else q + 1
def segV (d : Dk) (a : Nat) (s : Int) : Nat := sgf d a (max s 0) (dS d a - 1)
def lnV (d : Dk) (a : Nat) (s : Int) : Int := bas d a (segV d a s) + (max s 0 - dF d a (segV d a s) * 1000000000).tdiv 1000 * dL d a (segV d a s)
def trm (b w : Int) (v : Nat → Int) (t : Nat) : Int := if t = 6 then w * 1000000000 else if t = 7 then b * 1000000000 else v t
def smV (d : Dk) (b w : Int) (v : Nat → Int) (r : Nat) : Nat → Int
  | 0 => 0
  | n + 1 => smV d b w v r n + dG d r n * trm b w v (dM d r n)
def sumV (d : Dk) (b w : Int) (v : Nat → Int) (r : Nat) : Int := smV d b w v r (dT d r)
/-- the accounts at a wage; account hd is held at hv (-1: none) -/
def vals (d : Dk) (b hd hv w : Int) : Nat → Nat → Int
  | 0 => fun _ => 0
  | n + 1 => fun k => if k = n then (if (n : Int) = hd then hv else lnV d n (sumV d b w (vals d b hd hv w n) n)) else vals d b hd hv w n k
def VA (d : Dk) (b hd hv w : Int) : Nat → Int := vals d b hd hv w (dA d)
def paid (d : Dk) (b hd hv w : Int) : Int := sumV d b w (VA d b hd hv w) 6
theorem vals_le (d : Dk) (b hd hv w : Int) (k n : Nat) (hk : k < n) : ∀ m, n ≤ m → vals d b hd hv w m k = vals d b hd hv w n k
  | 0, h => by omega
  | m + 1, h => by
    rcases Nat.lt_or_ge m n with q | q
    · rw [show n = m + 1 by omega]
    · have ih := vals_le d b hd hv w k n hk m q
      rw [vals]
      simp only
      rw [if_neg (by omega), ih]
theorem smV_cong {d : Dk} {b w : Int} {v v' : Nat → Int} {r : Nat} : ∀ n, (∀ j, j < n → dM d r j ≠ 6 → dM d r j ≠ 7 → v (dM d r j) = v' (dM d r j)) → smV d b w v r n = smV d b w v' r n
  | 0, _ => rfl
  | n + 1, h => by
    rw [smV, smV, smV_cong n (fun j hj => h j (by omega))]
    congr 2
    unfold trm
    by_cases e1 : dM d r n = 6
    · rw [if_pos e1, if_pos e1]
    · rw [if_neg e1, if_neg e1]
      by_cases e2 : dM d r n = 7
      · rw [if_pos e2, if_pos e2]
      · rw [if_neg e2, if_neg e2, h n (by omega) e1 e2]
theorem sumV_cong {d : Dk} {b w : Int} {v v' : Nat → Int} {r : Nat} (hT : WT d r) (h : ∀ k, k < dA d → (r < 6 → k < r) → v k = v' k) : sumV d b w v r = sumV d b w v' r := by
  refine smV_cong _ (fun j hj e1 e2 => ?_)
  have := (hT.2.2 j hj).2
  exact h _ (by omega) (fun q => by omega)
/-- each account is what its line makes of its sum -/
theorem VA_eq {d : Dk} (hW : WD d) (b hd hv w : Int) {a : Nat} (ha : a < dA d) : VA d b hd hv w a = if (a : Int) = hd then hv else lnV d a (sumV d b w (VA d b hd hv w) a) := by
  have h1 : VA d b hd hv w a = vals d b hd hv w (a + 1) a := vals_le d b hd hv w a (a + 1) (by omega) (dA d) ha
  rw [h1, vals]
  simp only [if_true]
  have hT := (hW.2.2.1 a ha).2.1
  have e : sumV d b w (vals d b hd hv w a) a = sumV d b w (VA d b hd hv w) a := sumV_cong hT (fun k k1 k2 => (vals_le d b hd hv w k a (k2 (by have := hW.1; omega)) (dA d) (by omega)).symm)
  rw [e]
/-! bounds -/
def VB (p : Nat) : Int := match p with
  | 0 => 0
  | 1 => 150000000000000
  | 2 => 1830000000000000
  | _ => 22000000000000000
theorem bas_bd {d : Dk} {a : Nat} (h : WS d a) : ∀ q, q < dS d a → 0 ≤ bas d a q ∧ bas d a q ≤ 9999000000000 + dF d a q * 1999000000
  | 0, hq => by
    have h2 := h.2.2.2.2 0 hq
    rw [bas]
    split <;> omega
  | q + 1, hq => by
    have ih := bas_bd h q (by omega)
    have h1 := h.2.2.2.2 q (by omega)
    have h2 := h.2.2.2.2 (q + 1) hq
    have h3 := h.2.2.2.1 q hq
    rw [bas]
    split
    · have y1 := Int.mul_nonneg (show 0 ≤ dF d a (q + 1) - dF d a q by omega) (show 0 ≤ dL d a q by omega)
      have y2 := Int.mul_le_mul_of_nonneg_left (show dL d a q ≤ 1999 by omega) (show 0 ≤ dF d a (q + 1) - dF d a q by omega)
      omega
    · omega
theorem sgf_le (d : Dk) (a : Nat) (c : Int) : ∀ q, sgf d a c q ≤ q
  | 0 => Nat.le_refl _
  | q + 1 => by have := sgf_le d a c q; rw [sgf]; split <;> omega
theorem sgf_fr {d : Dk} {a : Nat} (h : WS d a) {c : Int} (hc : 0 ≤ c) : ∀ q, dF d a (sgf d a c q) * 1000000000 ≤ c
  | 0 => by rw [sgf, h.2.2.1]; omega
  | q + 1 => by
    rw [sgf]
    split
    · exact sgf_fr h hc q
    · omega
theorem segV_lt {d : Dk} {a : Nat} (h : WS d a) (s : Int) : segV d a s < dS d a := by
  have := sgf_le d a (max s 0) (dS d a - 1)
  have := h.1
  unfold segV
  omega
theorem lnV_bd {d : Dk} {a : Nat} (h : WS d a) {s S : Int} (hs : s ≤ S) (hS : 0 ≤ S) : 0 ≤ lnV d a s ∧ lnV d a s ≤ 30000000000000 + 2 * S := by
  have hq := segV_lt h s
  have h1 := bas_bd h _ hq
  have h2 := h.2.2.2.2 _ hq
  have h3 : dF d a (segV d a s) * 1000000000 ≤ max s 0 := sgf_fr h (by omega) _
  unfold lnV
  rw [Int.tdiv_eq_ediv_of_nonneg (by omega)]
  have y1 := Int.mul_nonneg (show 0 ≤ (max s 0 - dF d a (segV d a s) * 1000000000) / 1000 by omega) (show 0 ≤ dL d a (segV d a s) by omega)
  have y2 := Int.mul_le_mul_of_nonneg_left (show dL d a (segV d a s) ≤ 1999 by omega) (show 0 ≤ (max s 0 - dF d a (segV d a s) * 1000000000) / 1000 by omega)
  omega
theorem smV_bd {d : Dk} {b w B : Int} {v : Nat → Int} {r : Nat} (hB : 0 ≤ B) : ∀ n, (∀ j, j < n → (dG d r j = 1 ∨ dG d r j = -1) ∧ -B ≤ trm b w v (dM d r j) ∧ trm b w v (dM d r j) ≤ B) → -(n * B) ≤ smV d b w v r n ∧ smV d b w v r n ≤ n * B
  | 0, _ => by simp [smV]
  | n + 1, h => by
    have ih := smV_bd hB n (fun j hj => h j (by omega))
    obtain ⟨h1, h2⟩ := h n (by omega)
    rw [smV, show ((n + 1 : Nat) : Int) = (n : Int) + 1 by omega, lin_step]
    rcases h1 with e | e <;> rw [e] <;> omega
/-- bounds of the sum of an account of depth p -/
def SB (p : Nat) : Int := match p with
  | 0 => 0
  | 1 => 59994000000000
  | 2 => 900000000000000
  | _ => 10980000000000000
theorem val_bd {d : Dk} (hW : WD d) {b hd hv w : Int} (hb : 0 ≤ b ∧ b ≤ 999) (hw : 0 ≤ w ∧ w ≤ 9999) (hh : ∀ a : Nat, a < dA d → (a : Int) = hd → 0 ≤ hv ∧ hv ≤ VB (dD d a)) : ∀ n, n ≤ dA d → ∀ k, k < n → (0 ≤ VA d b hd hv w k ∧ VA d b hd hv w k ≤ VB (dD d k)) ∧ (-(SB (dD d k)) ≤ sumV d b w (VA d b hd hv w) k ∧ sumV d b w (VA d b hd hv w) k ≤ SB (dD d k))
  | 0, _, k, hk => by omega
  | n + 1, hn, k, hk => by
    have ih := val_bd hW hb hw hh n (by omega)
    rcases Nat.lt_or_ge k n with q | q
    · exact ih k q
    · have e : k = n := by omega
      subst e
      obtain ⟨hS, hT, hD1, hD2⟩ := hW.2.2.1 k hn
      have hA := hW.1
      have hsum : -(SB (dD d k)) ≤ sumV d b w (VA d b hd hv w) k ∧ sumV d b w (VA d b hd hv w) k ≤ SB (dD d k) := by
        have hTB : ∃ B : Int, 0 ≤ B ∧ 6 * B = SB (dD d k) ∧ 9999000000000 ≤ B ∧ ∀ p, p < dD d k → VB p ≤ B := by
          rcases (show dD d k = 1 ∨ dD d k = 2 ∨ dD d k = 3 by omega) with e | e | e <;> rw [e]
          · exact ⟨9999000000000, by omega, rfl, by omega, fun p hp => by rw [show p = 0 by omega]; decide⟩
          · exact ⟨150000000000000, by omega, rfl, by omega, fun p hp => by rcases (show p = 0 ∨ p = 1 by omega) with e | e <;> rw [e] <;> decide⟩
          · exact ⟨1830000000000000, by omega, rfl, by omega, fun p hp => by rcases (show p = 0 ∨ p = 1 ∨ p = 2 by omega) with e | e | e <;> rw [e] <;> decide⟩
        obtain ⟨B, B0, B6, B1, B2⟩ := hTB
        have hb1 := smV_bd (d := d) (b := b) (w := w) (v := VA d b hd hv w) (r := k) B0 (dT d k) (fun j hj => by
          obtain ⟨g1, g2⟩ := hT.2.2 j hj
          refine ⟨g1, ?_⟩
          unfold trm
          rcases g2 with z | z | ⟨z1, z2⟩
          · rw [if_pos z]; omega
          · rw [if_neg (by omega), if_pos z]; omega
          · rw [if_neg (by omega), if_neg (by omega)]
            have y := (ih (dM d k j) (z2 (by omega)).1).1
            have y2 := B2 _ (z2 (by omega)).2
            omega)
        have h6 := hT.2.1
        have y1 := mul_mono (show (dT d k : Int) ≤ 6 by omega) B0
        unfold sumV
        omega
      refine ⟨?_, hsum⟩
      rw [VA_eq hW b hd hv w hn]
      by_cases e : (k : Int) = hd
      · rw [if_pos e]; exact hh k hn e
      · rw [if_neg e]
        have y := lnV_bd hS hsum.2 (show 0 ≤ SB (dD d k) by rcases (show dD d k = 1 ∨ dD d k = 2 ∨ dD d k = 3 by omega) with e | e | e <;> rw [e] <;> decide)
        refine ⟨y.1, Int.le_trans y.2 ?_⟩
        rcases (show dD d k = 1 ∨ dD d k = 2 ∨ dD d k = 3 by omega) with e | e | e <;> rw [e] <;> decide
theorem VB_le (p : Nat) : 0 ≤ VB p ∧ VB p ≤ 22000000000000000 := by
  unfold VB; split <;> omega
theorem SB_le (p : Nat) : 0 ≤ SB p ∧ SB p ≤ 10980000000000000 := by
  unfold SB; split <;> omega
theorem paid_bd {d : Dk} (hW : WD d) {b hd hv w : Int} (hb : 0 ≤ b ∧ b ≤ 999) (hw : 0 ≤ w ∧ w ≤ 9999) (hh : ∀ a : Nat, a < dA d → (a : Int) = hd → 0 ≤ hv ∧ hv ≤ VB (dD d a)) : -132000000000000000 ≤ paid d b hd hv w ∧ paid d b hd hv w ≤ 132000000000000000 := by
  have vb := val_bd hW hb hw hh (dA d) (Nat.le_refl _)
  have hT := hW.2.2.2
  have hb1 := smV_bd (d := d) (b := b) (w := w) (v := VA d b hd hv w) (r := 6) (B := 22000000000000000) (by omega) (dT d 6) (fun j hj => by
    obtain ⟨g1, g2⟩ := hT.2.2 j hj
    refine ⟨g1, ?_⟩
    unfold trm
    rcases g2 with z | z | ⟨z1, z2⟩
    · rw [if_pos z]; omega
    · have hA := hW.1
      rw [if_neg (by omega), if_pos z]; omega
    · have hA := hW.1
      rw [if_neg (by omega), if_neg (by omega)]
      have y := (vb (dM d 6 j) z1).1
      have y2 := VB_le (dD d (dM d 6 j))
      omega)
  have h6 := hT.2.1
  have y1 := mul_mono (show (dT d 6 : Int) ≤ 6 by omega) (show (0 : Int) ≤ 22000000000000000 by omega)
  unfold paid sumV
  omega
