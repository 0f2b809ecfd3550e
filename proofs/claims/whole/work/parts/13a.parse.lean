/-! own text: how a tape is read, purely: places, blanks, numbers, terms, segments, rules, a desk -/
/-- byte at a place, -1 behind the end -/
def tat (T : Nat → Int) (L p : Nat) : Int := if p < L then T p else -1
def skf (T : Nat → Int) (L : Nat) : Nat → Nat → Nat
  | 0, p => p
  | f + 1, p => if p < L ∧ T p = 32 then skf T L f (p + 1) else p
/-- the next place that is no blank -/
def sk (T : Nat → Int) (L p : Nat) : Nat := skf T L (L - p) p
theorem skf_le (T : Nat → Int) (L : Nat) : ∀ f p, p ≤ skf T L f p ∧ (p ≤ L → skf T L f p ≤ L)
  | 0, p => ⟨Nat.le_refl _, id⟩
  | f + 1, p => by
    rw [skf]
    split
    · have := skf_le T L f (p + 1); omega
    · exact ⟨Nat.le_refl _, id⟩
theorem sk_le {T : Nat → Int} {L p : Nat} (hp : p ≤ L) : p ≤ sk T L p ∧ sk T L p ≤ L := ⟨(skf_le T L _ p).1, (skf_le T L _ p).2 hp⟩
theorem sk_step {T : Nat → Int} {L p : Nat} (h1 : p < L) (h2 : T p = 32) : sk T L p = sk T L (p + 1) := by
  unfold sk
  rw [show L - p = (L - (p + 1)) + 1 by omega, skf, if_pos ⟨h1, h2⟩]
theorem sk_stop {T : Nat → Int} {L p : Nat} (h : ¬ (p < L ∧ T p = 32)) : sk T L p = p := by
  unfold sk
  cases hq : L - p with
  | zero => rfl
  | succ f => rw [skf, if_neg h]
theorem sk_end {T : Nat → Int} {L : Nat} : ∀ n p, L - p = n → ¬ (sk T L p < L ∧ T (sk T L p) = 32) := by
  intro n
  induction n with
  | zero => intro p hp h; rw [sk_stop (by omega)] at h; omega
  | succ n ih =>
    intro p hp
    by_cases c : p < L ∧ T p = 32
    · rw [sk_step c.1 c.2]; exact ih (p + 1) (by omega)
    · rw [sk_stop c]; exact c
theorem sk_sk {T : Nat → Int} {L p : Nat} : sk T L (sk T L p) = sk T L p := sk_stop (sk_end _ p rfl)
theorem tat_in {T : Nat → Int} {L p : Nat} (h : tat T L p ≠ -1) : p < L := by
  unfold tat at h
  split at h
  · assumption
  · exact absurd rfl h
abbrev isD (T : Nat → Int) (L p : Nat) : Prop := p < L ∧ 48 ≤ T p ∧ T p ≤ 57
/-- how many digits, n at the most -/
def dgc (T : Nat → Int) (L : Nat) : Nat → Nat → Nat
  | 0, _ => 0
  | n + 1, p => if isD T L p then dgc T L n (p + 1) + 1 else 0
theorem dgc_eq {T : Nat → Int} {L : Nat} : ∀ n p k, (∀ i, i < k → isD T L (p + i)) → k ≤ n → (k = n ∨ ¬ isD T L (p + k)) → dgc T L n p = k
  | 0, p, k, _, h2, _ => by rw [dgc]; omega
  | n + 1, p, 0, _, _, h3 => by
    rw [dgc, if_neg]
    rcases h3 with h | h
    · omega
    · simpa using h
  | n + 1, p, k + 1, h1, h2, h3 => by
    rw [dgc, if_pos (by simpa using h1 0 (by omega)), dgc_eq n (p + 1) k (fun i hi => by have := h1 (i + 1) (by omega); rw [show p + 1 + i = p + (i + 1) by omega]; exact this) (by omega) (by
      rcases h3 with h | h
      · left; omega
      · right; rw [show p + 1 + k = p + (k + 1) by omega]; exact h)]
/-- the number that k digits spell -/
def dgv (T : Nat → Int) (q : Nat) : Nat → Int
  | 0 => 0
  | k + 1 => 10 * dgv T q k + T (q + k) - 48
theorem dgv_bd {T : Nat → Int} {L q : Nat} : ∀ k, k ≤ 4 → (∀ i, i < k → isD T L (q + i)) → 0 ≤ dgv T q k ∧ dgv T q k ≤ (if k = 0 then 0 else if k = 1 then 9 else if k = 2 then 99 else if k = 3 then 999 else 9999)
  | 0, _, _ => by simp [dgv]
  | k + 1, hk, h => by
    have ih := dgv_bd k (by omega) (fun i hi => h i (by omega))
    have h1 := h k (by omega)
    rw [dgv]
    have : k = 0 ∨ k = 1 ∨ k = 2 ∨ k = 3 := by omega
    rcases this with e | e | e | e <;> subst e <;> simp at ih h1 ⊢ <;> omega
theorem dgv_b {T : Nat → Int} {L q k : Nat} (hk : k ≤ 4) (h : ∀ i, i < k → isD T L (q + i)) : 0 ≤ dgv T q k ∧ dgv T q k ≤ 9999 := by
  have := dgv_bd k hk h
  refine ⟨this.1, Int.le_trans this.2 ?_⟩
  have : k = 0 ∨ k = 1 ∨ k = 2 ∨ k = 3 ∨ k = 4 := by omega
  rcases this with e | e | e | e | e <;> subst e <;> simp
theorem dgc_in {T : Nat → Int} {L : Nat} : ∀ n p, dgc T L n p ≤ n ∧ ∀ i, i < dgc T L n p → isD T L (p + i)
  | 0, p => ⟨Nat.le_refl _, fun i hi => by rw [dgc] at hi; omega⟩
  | n + 1, p => by
    rw [dgc]
    split
    · rename_i h
      have ih := dgc_in (T := T) (L := L) n (p + 1)
      refine ⟨by omega, fun i hi => ?_⟩
      cases i with
      | zero => simpa using h
      | succ i => rw [show p + (i + 1) = p + 1 + i by omega]; exact ih.2 i (by omega)
    · exact ⟨by omega, fun i hi => by omega⟩
/-- a number: where it is wrong, or the place behind it and what it is -/
def pNum (T : Nat → Int) (L p : Nat) (lo hi : Int) : Nat ⊕ (Nat × Int) :=
  if dgc T L 4 (sk T L p) = 0 ∨ isD T L (sk T L p + dgc T L 4 (sk T L p)) then .inl (sk T L p + dgc T L 4 (sk T L p))
  else if dgv T (sk T L p) (dgc T L 4 (sk T L p)) < lo ∨ hi < dgv T (sk T L p) (dgc T L 4 (sk T L p)) then .inl (sk T L p + dgc T L 4 (sk T L p) - 1)
  else .inr (sk T L p + dgc T L 4 (sk T L p), dgv T (sk T L p) (dgc T L 4 (sk T L p)))
theorem pNum_ok {T : Nat → Int} {L p p' : Nat} {lo hi v : Int} (hp : p ≤ L) (h : pNum T L p lo hi = .inr (p', v)) : p' ≤ L ∧ lo ≤ v ∧ v ≤ hi := by
  unfold pNum at h
  split at h
  · cases h
  · split at h
    · cases h
    · rename_i h1 h2
      have hs := sk_le (T := T) hp
      have hd := dgc_in (T := T) (L := L) 4 (sk T L p)
      simp only [Sum.inr.injEq, Prod.mk.injEq] at h
      obtain ⟨rfl, rfl⟩ := h
      refine ⟨?_, by omega, by omega⟩
      by_cases c : dgc T L 4 (sk T L p) = 0
      · omega
      · have := (hd.2 (dgc T L 4 (sk T L p) - 1) (by omega)).1
        omega
theorem pNum_w {T : Nat → Int} {L p w : Nat} {lo hi : Int} (hp : p ≤ L) (h : pNum T L p lo hi = .inl w) : w ≤ L := by
  unfold pNum at h
  have hs := sk_le (T := T) hp
  have hd := dgc_in (T := T) (L := L) 4 (sk T L p)
  have hl : sk T L p + dgc T L 4 (sk T L p) ≤ L := by
    by_cases c : dgc T L 4 (sk T L p) = 0
    · omega
    · have := (hd.2 (dgc T L 4 (sk T L p) - 1) (by omega)).1
      omega
  split at h
  · simp only [Sum.inl.injEq] at h; omega
  · split at h
    · simp only [Sum.inl.injEq] at h; omega
    · cases h
/-- an implication that arithmetic passes over -/
def Imp (a b : Prop) : Prop := a → b
def upf {α : Type} (f : Nat → α) (n : Nat) (v : α) : Nat → α := fun j => if j = n then v else f j
theorem upf_eq {α : Type} (f : Nat → α) (n : Nat) (v : α) : upf f n v n = v := if_pos rfl
theorem upf_ne {α : Type} {f : Nat → α} {n j : Nat} {v : α} (h : j ≠ n) : upf f n v j = f j := if_neg h
/-- what a letter is as a term -/
def tmc (c : Int) (A : Nat) : Option Nat := if c = 103 then some 6 else if c = 107 then some 7 else if 97 ≤ c ∧ c < 97 + (A : Int) then some (c - 97).toNat else none
/-- terms: f more are allowed, n are there -/
def pTm (T : Nat → Int) (L A : Nat) : Nat → Nat → Int → Nat → (Nat → Int) → (Nat → Nat) → Nat ⊕ (Nat × Nat × (Nat → Int) × (Nat → Nat))
  | 0, p, _, _, _, _ => .inl p
  | f + 1, p, sg, n, G, M => match tmc (tat T L (sk T L p)) A with
    | none => .inl (sk T L p)
    | some t =>
      if tat T L (sk T L (sk T L p + 1)) = 43 ∨ tat T L (sk T L (sk T L p + 1)) = 45 then
        (if f = 0 then .inl (sk T L (sk T L p + 1)) else pTm T L A f (sk T L (sk T L p + 1) + 1) (if tat T L (sk T L (sk T L p + 1)) = 45 then -1 else 1) (n + 1) (upf G n sg) (upf M n t))
      else .inr (sk T L (sk T L p + 1), n + 1, upf G n sg, upf M n t)
def pTerms (T : Nat → Int) (L A p : Nat) : Nat ⊕ (Nat × Nat × (Nat → Int) × (Nat → Nat)) :=
  if tat T L (sk T L p) = 45 then pTm T L A 6 (sk T L p + 1) (-1) 0 (fun _ => 0) (fun _ => 0) else pTm T L A 6 (sk T L p) 1 0 (fun _ => 0) (fun _ => 0)
/-- n terms as they may be, A accounts told -/
def TmI (A n : Nat) (G : Nat → Int) (M : Nat → Nat) : Prop := ∀ j, j < n → (G j = 1 ∨ G j = -1) ∧ (M j = 6 ∨ M j = 7 ∨ M j < A)
theorem TmI.up {A n t : Nat} {G : Nat → Int} {M : Nat → Nat} {s : Int} (h : TmI A n G M) (hs : s = 1 ∨ s = -1) (ht : t = 6 ∨ t = 7 ∨ t < A) : TmI A (n + 1) (upf G n s) (upf M n t) := fun j hj => by
  by_cases e : j = n
  · rw [e, upf_eq, upf_eq]; exact ⟨hs, ht⟩
  · rw [upf_ne e, upf_ne e]; exact h j (by omega)
theorem tmc_ok {c : Int} {A t : Nat} (h : tmc c A = some t) : (t = 6 ∨ t = 7 ∨ t < A) ∧ c ≠ -1 ∧ ((c = 103 ∧ t = 6) ∨ (c = 107 ∧ t = 7) ∨ (c ≠ 103 ∧ c ≠ 107 ∧ 97 ≤ c ∧ c < 97 + (A : Int) ∧ (t : Int) = c - 97)) := by
  unfold tmc at h
  split at h
  · cases h; omega
  · split at h
    · cases h; omega
    · split at h
      · cases h; omega
      · cases h
theorem tmc_no {c : Int} {A : Nat} (h : tmc c A = none) : c ≠ 103 ∧ c ≠ 107 ∧ ¬ (97 ≤ c ∧ c < 97 + (A : Int)) := by
  unfold tmc at h
  split at h
  · cases h
  · split at h
    · cases h
    · split at h
      · cases h
      · rename_i a b c; exact ⟨a, b, c⟩
theorem pTm_ok {T : Nat → Int} {L A : Nat} : ∀ f p sg n G M p' n' G' M', pTm T L A f p sg n G M = .inr (p', n', G', M') → n + f = 6 → p ≤ L → (sg = 1 ∨ sg = -1) → TmI A n G M → p' ≤ L ∧ sk T L p' = p' ∧ 1 ≤ n' ∧ n' ≤ 6 ∧ TmI A n' G' M'
  | 0, p, sg, n, G, M, p', n', G', M', h, _, _, _, _ => by rw [pTm] at h; cases h
  | f + 1, p, sg, n, G, M, p', n', G', M', h, hn, hp, hs, hI => by
    rw [pTm] at h
    have s1 := sk_le (T := T) hp
    cases ht : tmc (tat T L (sk T L p)) A with
    | none => rw [ht] at h; cases h
    | some t =>
      rw [ht] at h
      simp only at h
      obtain ⟨t1, t2, -⟩ := tmc_ok ht
      have s2 := tat_in t2
      have s3 := sk_le (T := T) (show sk T L p + 1 ≤ L by omega)
      split at h
      · split at h
        · cases h
        · rename_i c1 c2
          have s4 : sk T L (sk T L p + 1) < L := tat_in (T := T) (by omega)
          exact pTm_ok f _ _ _ _ _ _ _ _ _ h (by omega) (by omega) (by split <;> omega) (hI.up hs t1)
      · simp only [Sum.inr.injEq, Prod.mk.injEq] at h
        obtain ⟨rfl, rfl, rfl, rfl⟩ := h
        exact ⟨by omega, sk_sk, by omega, by omega, hI.up hs t1⟩
theorem TmI.nil (A : Nat) (G : Nat → Int) (M : Nat → Nat) : TmI A 0 G M := fun j hj => by omega
theorem pTerms_ok {T : Nat → Int} {L A p p' n' : Nat} {G' : Nat → Int} {M' : Nat → Nat} (hp : p ≤ L) (h : pTerms T L A p = .inr (p', n', G', M')) : p' ≤ L ∧ sk T L p' = p' ∧ 1 ≤ n' ∧ n' ≤ 6 ∧ TmI A n' G' M' := by
  unfold pTerms at h
  have s1 := sk_le (T := T) hp
  split at h
  · rename_i c
    have := tat_in (T := T) (L := L) (p := sk T L p) (by omega)
    exact pTm_ok 6 _ _ _ _ _ _ _ _ _ h (by omega) (by omega) (by omega) (TmI.nil _ _ _)
  · exact pTm_ok 6 _ _ _ _ _ _ _ _ _ h (by omega) (by omega) (by omega) (TmI.nil _ _ _)
/-- a segment: its place behind, FROM, AT (-1: none), SLOPE -/
def pSg (T : Nat → Int) (L p : Nat) (lo hi : Int) : Nat ⊕ (Nat × Int × Int × Int) := match pNum T L p lo hi with
  | .inl w => .inl w
  | .inr (p1, v1) => if tat T L (sk T L p1) = 58 then (match pNum T L (sk T L p1 + 1) 0 9999 with
      | .inl w => .inl w
      | .inr (p2, v2) => if tat T L (sk T L p2) = 58 then (match pNum T L (sk T L p2 + 1) 0 1999 with
          | .inl w => .inl w
          | .inr (p3, v3) => .inr (p3, v1, v2, v3))
        else if v2 ≤ 1999 then .inr (sk T L p2, v1, -1, v2) else .inl (sk T L p2))
    else .inl (sk T L p1)
theorem pSg_ok {T : Nat → Int} {L p p' : Nat} {lo hi a b c : Int} (hp : p ≤ L) (h : pSg T L p lo hi = .inr (p', a, b, c)) : p' ≤ L ∧ (lo ≤ a ∧ a ≤ hi) ∧ (-1 ≤ b ∧ b ≤ 9999) ∧ (0 ≤ c ∧ c ≤ 1999) := by
  unfold pSg at h
  cases h1 : pNum T L p lo hi with
  | inl w => rw [h1] at h; cases h
  | inr x =>
    obtain ⟨p1, v1⟩ := x
    rw [h1] at h
    simp only at h
    have o1 := pNum_ok hp h1
    have s1 := sk_le (T := T) o1.1
    split at h
    · rename_i c1
      have := tat_in (T := T) (L := L) (p := sk T L p1) (by omega)
      cases h2 : pNum T L (sk T L p1 + 1) 0 9999 with
      | inl w => rw [h2] at h; cases h
      | inr x =>
        obtain ⟨p2, v2⟩ := x
        rw [h2] at h
        simp only at h
        have o2 := pNum_ok (by omega) h2
        have s2 := sk_le (T := T) o2.1
        split at h
        · rename_i c2
          have := tat_in (T := T) (L := L) (p := sk T L p2) (by omega)
          cases h3 : pNum T L (sk T L p2 + 1) 0 1999 with
          | inl w => rw [h3] at h; cases h
          | inr x =>
            obtain ⟨p3, v3⟩ := x
            rw [h3] at h
            simp only at h
            have o3 := pNum_ok (by omega) h3
            simp only [Sum.inr.injEq, Prod.mk.injEq] at h
            obtain ⟨rfl, rfl, rfl, rfl⟩ := h
            omega
        · split at h
          · simp only [Sum.inr.injEq, Prod.mk.injEq] at h
            obtain ⟨rfl, rfl, rfl, rfl⟩ := h
            omega
          · cases h
    · cases h
/-- segments: f more are allowed, m are there -/
def pSgs (T : Nat → Int) (L : Nat) : Nat → Nat → Nat → Int → Int → (Nat → Int) → (Nat → Int) → (Nat → Int) → Nat ⊕ (Nat × Nat × (Nat → Int) × (Nat → Int) × (Nat → Int))
  | 0, p, _, _, _, _, _, _ => .inl p
  | f + 1, p, m, lo, hi, F, E, S => if tat T L (sk T L p) = 47 then (match pSg T L (sk T L p + 1) lo hi with
      | .inl w => .inl w
      | .inr (p1, a, b, c) => if tat T L (sk T L p1) = 47 then pSgs T L f (sk T L p1) (m + 1) (a + 1) 9999 (upf F m a) (upf E m b) (upf S m c)
        else .inr (sk T L p1, m + 1, upf F m a, upf E m b, upf S m c))
    else .inl (sk T L p)
/-- m segments as they may be; the next FROM lies in lo .. hi -/
def SgI (m : Nat) (F E S : Nat → Int) (lo hi : Int) : Prop := (m = 0 → lo = 0 ∧ hi = 0) ∧ (0 < m → F 0 = 0 ∧ lo = F (m - 1) + 1 ∧ hi = 9999) ∧ (∀ q, q + 1 < m → F q < F (q + 1)) ∧ ∀ q, q < m → (0 ≤ F q ∧ F q ≤ 9999) ∧ (-1 ≤ E q ∧ E q ≤ 9999) ∧ (0 ≤ S q ∧ S q ≤ 1999)
theorem SgI.up {m : Nat} {F E S : Nat → Int} {lo hi a b c : Int} (h : SgI m F E S lo hi) (ha : lo ≤ a ∧ a ≤ hi) (hb : -1 ≤ b ∧ b ≤ 9999) (hc : 0 ≤ c ∧ c ≤ 1999) : SgI (m + 1) (upf F m a) (upf E m b) (upf S m c) (a + 1) 9999 := by
  obtain ⟨h1, h2, h3, h4⟩ := h
  have hlo : 0 ≤ lo ∧ hi ≤ 9999 := by
    rcases Nat.eq_zero_or_pos m with z | z
    · have := h1 z; omega
    · have := h2 z; have := (h4 (m - 1) (by omega)).1; omega
  refine ⟨fun z => by omega, fun _ => ⟨?_, by rw [show m + 1 - 1 = m by omega, upf_eq], rfl⟩, fun q hq => ?_, fun q hq => ?_⟩
  · rcases Nat.eq_zero_or_pos m with z | z
    · have := h1 z; subst z; rw [upf_eq]; omega
    · rw [upf_ne (by omega)]; exact (h2 z).1
  · by_cases e : q + 1 = m
    · rw [upf_ne (by omega), e, upf_eq]
      have := h2 (by omega)
      rw [show m - 1 = q by omega] at this
      omega
    · rw [upf_ne (by omega), upf_ne e]; exact h3 q (by omega)
  · by_cases e : q = m
    · rw [e, upf_eq, upf_eq, upf_eq]; exact ⟨by omega, hb, hc⟩
    · rw [upf_ne e, upf_ne e, upf_ne e]; exact h4 q (by omega)
theorem pSgs_ok {T : Nat → Int} {L : Nat} : ∀ f p m lo hi F E S p' m' F' E' S', pSgs T L f p m lo hi F E S = .inr (p', m', F', E', S') → m + f = 6 → p ≤ L → SgI m F E S lo hi → p' ≤ L ∧ sk T L p' = p' ∧ 1 ≤ m' ∧ m' ≤ 6 ∧ ∃ lo' hi', SgI m' F' E' S' lo' hi'
  | 0, p, m, lo, hi, F, E, S, p', m', F', E', S', h, _, _, _ => by rw [pSgs] at h; cases h
  | f + 1, p, m, lo, hi, F, E, S, p', m', F', E', S', h, hn, hp, hI => by
    rw [pSgs] at h
    have s1 := sk_le (T := T) hp
    split at h
    · rename_i c1
      have := tat_in (T := T) (L := L) (p := sk T L p) (by omega)
      cases h2 : pSg T L (sk T L p + 1) lo hi with
      | inl w => rw [h2] at h; cases h
      | inr x =>
        obtain ⟨p1, a, b, c⟩ := x
        rw [h2] at h
        simp only at h
        have o := pSg_ok (by omega) h2
        have s2 := sk_le (T := T) o.1
        have hU := hI.up o.2.1 o.2.2.1 o.2.2.2
        split at h
        · exact pSgs_ok f _ _ _ _ _ _ _ _ _ _ _ _ h (by omega) (by omega) hU
        · simp only [Sum.inr.injEq, Prod.mk.injEq] at h
          obtain ⟨rfl, rfl, rfl, rfl, rfl⟩ := h
          exact ⟨by omega, sk_sk, by omega, by omega, _, _, hU⟩
    · cases h
