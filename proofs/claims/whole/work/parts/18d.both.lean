/-! own text: answers have one solution; the other questions -/
theorem four {x : Int} (h : 0 ≤ x ∧ x ≤ 3) : x = 0 ∨ x = 1 ∨ x = 2 ∨ x = 3 := by omega
theorem prA.uq {F : Nat → Int} {v what r r' : Int} (hw : 0 ≤ what ∧ what ≤ 3) (h : prA F v what r) (h' : prA F v what r') : r = r' := by
  rcases four hw with e | e | e | e
  · rw [h.1 e, h'.1 e]
  · exact (h.2.1 e).uniq (h'.2.1 e)
  · exact (h.2.2.1 e).uniq (h'.2.2.1 e)
  · exact (h.2.2.2 e).uniq (h'.2.2.2 e)
theorem clA.uq {F : Nat → Int} {i what r r' : Int} (hw : 0 ≤ what ∧ what ≤ 3) (h : clA F i what r) (h' : clA F i what r') : r = r' := by
  have far : ∀ c : Nat, c < 10000 → clB F c = true → (ct (clB F) c : Int) = i → i < ct (clB F) 10000 := fun c h1 h2 h3 => by
    have h4 := ct_mono (clB F) (show c + 1 ≤ 10000 by omega)
    rw [ct, h2] at h4
    simp only [if_true] at h4
    omega
  rcases h with ⟨rfl, h⟩ | ⟨c, h1, h2, h3, h4, h5, h6, h7⟩ <;> rcases h' with ⟨rfl, h'⟩ | ⟨c', g1, g2, g3, g4, g5, g6, g7⟩
  · rfl
  · exact absurd (far c' g1.2 g2 g3) h
  · exact absurd (far c h1.2 h2 h3) h'
  · have hc : (c : Int) = c' := Kth.uniq (p := clB F) (n := 10000) (i := i) (Or.inr ⟨c, rfl, h1.2, h2, h3⟩) (Or.inr ⟨c', rfl, g1.2, g2, g3⟩)
    have hc : c = c' := by omega
    subst hc
    rcases four hw with e | e | e | e
    · rw [h4 e, g4 e]
    · rw [h5 e, g5 e]
    · exact (h6 e).uniq (g6 e)
    · obtain ⟨b, b1, b2⟩ := h7 e
      obtain ⟨b', b1', b2'⟩ := g7 e
      rw [b2, b2', b1.uniq b1']
theorem Amx.at {f : Nat → Int} {p : Nat → Prop} {n b b' : Nat} (h : Amx f p n b) (h' : Amx f p n b') : b = b' := by
  have := h.uniq h'
  omega
theorem crA.uq {D : Nat → Int} {what r r' : Int} (hw : 0 ≤ what ∧ what ≤ 2) (h : crA D what r) (h' : crA D what r') : r = r' := by
  have : what = 0 ∨ what = 1 ∨ what = 2 := by omega
  rcases this with e | e | e
  · rw [h.1 e, h'.1 e]
  · obtain ⟨b, b1, b2⟩ := h.2.1 e
    obtain ⟨b', b1', b2'⟩ := h'.2.1 e
    rw [b2, b2', b1.at b1']
  · exact (h.2.2 e).uniq (h'.2.2 e)
theorem acA.uq {d : Dk} {a what r r' : Int} (hw : 0 ≤ what ∧ what ≤ 3) (h : acA d a what r) (h' : acA d a what r') : r = r' := by
  rcases four hw with e | e | e | e
  · rw [h.1 e, h'.1 e]
  · rw [h.2.1 e, h'.2.1 e]
  · rw [h.2.2.1 e, h'.2.2.1 e]
  · obtain ⟨P, s, b1, b2⟩ := h.2.2.2 e
    obtain ⟨P', s', b1', b2'⟩ := h'.2.2.2 e
    rw [b2, b2', (b1.uq b1').1]
theorem Amx.ps {F : Nat → Int} {P Q : Nat} {s t : Nat → Nat} {r r' : Int} (h1 : Ps F P s) (h2 : Ps F Q t) (h : Amx (fun p => (s (p + 1) : Int) - s p) (fun _ => True) P r) (h' : Amx (fun p => (t (p + 1) : Int) - t p) (fun _ => True) Q r') : r = r' := by
  obtain ⟨rfl, e⟩ := h1.uq h2
  refine h.uniq ?_
  rcases h' with ⟨h3, h4⟩ | ⟨w, h3, h4, h5, h6, h7⟩
  · exact Or.inl ⟨h3, h4⟩
  · refine Or.inr ⟨w, h3, h4, h5, fun u hu _ => ?_, fun u hu _ => ?_⟩
    · have := h6 u hu trivial
      simp only at this ⊢
      rw [e _ (by omega), e _ (by omega), e _ (by omega), e _ (by omega)]
      exact this
    · have := h7 u hu trivial
      simp only at this ⊢
      rw [e _ (by omega), e _ (by omega), e _ (by omega), e _ (by omega)]
      exact this
theorem moA.uq {F : Nat → Int} {what r r' : Int} (hw : 0 ≤ what ∧ what ≤ 9) (h : moA F what r) (h' : moA F what r') : r = r' := by
  have hc : what = 0 ∨ what = 1 ∨ what = 2 ∨ what = 3 ∨ what = 4 ∨ what = 5 ∨ what = 6 ∨ what = 7 ∨ what = 8 ∨ what = 9 := by omega
  obtain ⟨a0, a1, a2, a3, a4, a5, a6, a7, a8, a9⟩ := h
  obtain ⟨b0, b1, b2, b3, b4, b5, b6, b7, b8, b9⟩ := h'
  rcases hc with e | e | e | e | e | e | e | e | e | e
  · obtain ⟨b, c1, c2⟩ := a0 e
    obtain ⟨b', c1', c2'⟩ := b0 e
    rw [c2, c2', c1.at c1']
  · exact (a1 e).uniq (b1 e)
  · obtain ⟨b, c1, c2⟩ := a2 e
    obtain ⟨b', c1', c2'⟩ := b2 e
    rw [c2, c2', c1.at c1']
  · exact (a3 e).uniq (b3 e)
  · exact (a4 e).uniq (b4 e)
  · obtain ⟨P, s, c1, c2⟩ := a5 e
    obtain ⟨P', s', c1', c2'⟩ := b5 e
    rw [c2, c2', (ct_ps c1 c1' true).2.2]
  · rw [a6 e, b6 e]
  · rw [a7 e, b7 e]
  · obtain ⟨P, s, c1, c2⟩ := a8 e
    obtain ⟨P', s', c1', c2'⟩ := b8 e
    exact c2.ps c1 c1' c2'
  · obtain ⟨b, c1, c2⟩ := a9 e
    obtain ⟨b', c1', c2'⟩ := b9 e
    rw [c2, c2', c1.at c1']
theorem rtA_cg {F : Nat → Int} {P Q : Nat} {s t : Nat → Nat} (h1 : Ps F P s) (h2 : Ps F Q t) (i : Int) : rtA F P s i = rtA F Q t i := by
  obtain ⟨rfl, e⟩ := h1.uq h2
  unfold rtA
  by_cases c : 0 ≤ i ∧ i < P
  · rw [if_pos c, if_pos c, e _ (by omega)]
  · rw [if_neg c, if_neg c]
