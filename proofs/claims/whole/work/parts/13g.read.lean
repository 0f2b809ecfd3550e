/-! own text: two references of the class are changed: its rules and its draft -/
theorem rf_k {g g' : Ge} {k i j : Nat} (hk : k ≠ 0) : rf g' k i j = rf g k i j := by
  unfold rf; split <;> first | rfl | exact absurd rfl hk
theorem ln_k {g g' : Ge} (h : g'.2.2 = g.2.2) (k i : Nat) : ln g' k i = ln g k i := by
  unfold ln; split <;> first | rfl | rw [h]
theorem pot_k {g g' : Ge} (h : g'.2.2 = g.2.2) : pot g' = pot g := by unfold pot; rw [h]
theorem pot2_k {N : Nm} {g g' : Ge} (h : g'.2.2 = g.2.2) : pot2 N g' = pot2 N g := by unfold pot2; rw [pot_k h]
theorem hcell_g {K : Kx} {g g' : Ge} {N : Nm} {ad : Nat → Nat → Nat} {k i : Nat} {H : Heap} (hk : k ≠ 0) (h : g'.2.2 = g.2.2) (hc : hcell K g N ad k i H) : hcell K g' N ad k i H := by
  unfold hcell at hc ⊢
  split at hc
  · obtain ⟨q, h1, h2⟩ := hc
    refine ⟨q, h1, h2.to (fun j _ => ?_)⟩
    unfold fv
    rw [rf_k (g := g) (g' := g') hk]
  · rw [ln_k h]; exact hc
  · rw [ln_k h]; exact hc
  · rw [ln_k h]; simp only [rf_k (g := g) (g' := g') hk]; exact hc
  · exact hc
  · exact hc
section Swap
variable {K : Kx} {Y : Ys} {h : Nat} {Q : Qt} {pc pc' : Nat} {ls : List (Option AV)} {st : List AV} {N : Nm} {g : Ge}
theorem r_putG {idx i' j : Nat} {g' : Ge} (h2 : g'.2.2 = g.2.2) (hv : ∀ ad, fv g' N ad 7 0 0 j = .ref (ad 20 i')) (ho : ∀ ad j', j' ≠ j → fv g' N ad 7 0 0 j' = fv g N ad 7 0 0 j') (hg1 : i' < 2 → g.1 < 2 → g.2.1 < 2 → g'.1 < 2 ∧ g'.2.1 < 2) (hj : j < 11) (hT : (TX9 j).1 = RX9) (hlink : Cond.fieldLink Y.1.cls idx RX9 (TX9 j).2.1 (TX9 j).2.2.1 ∈ TW) (hfin : (TX9 j).2.2.2 = false) (hd : parseFieldDescriptor (TX9 j).2.2.1 = some (.object "PayPromise$Rules")) (hat : At Y pc (.putfield idx) 3 pc') (kk : AW K Y h Q pc' ls st N g') : AW K Y h Q pc ls (vr 20 i' :: vr 0 0 :: st) N g := by
  obtain ⟨d, rfl⟩ := hat
  intro p e R s m args below meth cd ad0 g0 Cc H locs cells slots ad L hP hL hl hs
  have hi : 0 < cnt 0 := oks_hd (oks_tl hs)
  have hi' : i' < 2 := oks_hd hs
  have hc : clsL[7]? = some (RX9, TX9, 11) := rfl
  have hK := Cc.2.2.2.2.2.2.2.1
  have hts := Cc.2.2.2.2.1
  have hap := va_apart (own := Y.1.cls) hts kWX9 tyX9 tyX9_ok nmX9 hK hc
  obtain ⟨cell, q1, q2, q3, q4⟩ := hold_obj hP.1 hi (k := 0) (c := 7) rfl hc
  obtain ⟨hS, hfc, kC, hkC, hkind⟩ := hK.1 7 _ hc
  obtain ⟨cf, kf, fi, f, hi1, hsl⟩ := hS j hj
  have hlay := hts _ (kWX9 _ (u_in_lay hj))
  unfold u_lay at hlay
  rw [if_neg (by rw [hfin]; decide)] at hlay
  have hst := (u_facts hfc hkC (u_lays hts kWX9 hj) hi1).1
  have h6 := u_store hfc hkC hkind hlay hi1 hd (v := .ref (ad 20 i')) rfl rfl
  refine W.putK Cc.1 Cc.2.1 (f := f) ⟨Cc.2.2.2.1, hts _ hlink, ⟨_, _, _, hT ▸ hi1⟩, hst⟩ (by rw [q2]; exact h6) q1 q3 (by rw [hsl]; exact k2_hasslot (q4 j hj)) rfl rfl d fun H' e1 e2 e3 => ?_
  rw [hsl] at e1
  obtain ⟨p1, p2, p3, p4, p5, p6, p7, p8⟩ := hP
  have hb : K.2.1 ≤ ad 0 0 := (p1.2.1 0 0 hi).1
  refine kk p e R s m args below meth cd ad0 g0 Cc H' _ cells slots ad L ⟨⟨hg1 hi' p1.1.1 p1.1.2, fun k' i2 hi2 => ⟨(p1.2.1 k' i2 hi2).1, ?_⟩, p1.2.2⟩, p2, fun q hq => ?_, by rw [e2]; exact p4, fun q hq => ?_, by rw [pot2_k h2]; exact p6, by rw [pot2_k h2]; exact p7, p8⟩ hL hl (oks_tl (oks_tl hs))
  · by_cases e : k' = 0
    · subst e
      have : i2 = 0 := by have : i2 < 1 := hi2; omega
      subst this
      show ∃ q : vw_C, _
      refine ⟨_, hc, t_OB.to (V := updV (fun j => fv g N ad 7 0 0 j) j (.ref (ad 20 i'))) ⟨_, e1, q2, q3, t_set q4 hap hj _⟩ (fun j' _ => ?_)⟩
      by_cases e : j' = j
      · subst e
        rw [hv]; simp [updV]
      · simp only [updV, if_neg e]
        exact (ho ad j' e).symm
    · exact hcell_at (hcell_g e h2 (p1.2.1 k' i2 hi2).2) (e3 _ (fun q => e (p1.2.2 k' i2 0 0 hi2 hi q).1)) (fun _ => rfl) rfl
  · rcases List.mem_append.mp hq with h | h
    · exact p3 q h
    · rw [List.mem_singleton.mp h]; exact hb
  · rw [e3 q (fun z => by have z : q = ad 0 0 := z; omega)]; exact p5 q hq
theorem pf_X9_rules {idx i' : Nat} (hlink : Cond.fieldLink Y.1.cls idx RX9 "rules" "LPayPromise$Rules;" ∈ TW) (hat : At Y pc (.putfield idx) 3 pc') (kk : AW K Y h Q pc' ls st N (i', g.2.1, g.2.2)) : AW K Y h Q pc ls (vr 20 i' :: vr 0 0 :: st) N g := by
  refine r_putG (j := 7) (g' := (i', g.2.1, g.2.2)) rfl (fun ad => rfl) (fun ad j' hj => ?_) (fun a b c => ⟨a, c⟩) (by decide) rfl hlink rfl (by decide +kernel) hat kk
  have : rf (i', g.2.1, g.2.2) 0 0 j' = rf g 0 0 j' := by
    unfold rf; simp only; split <;> first | rfl | exact absurd rfl hj
  unfold fv; rw [this]
theorem pf_X9_draft {idx i' : Nat} (hlink : Cond.fieldLink Y.1.cls idx RX9 "draft" "LPayPromise$Rules;" ∈ TW) (hat : At Y pc (.putfield idx) 3 pc') (kk : AW K Y h Q pc' ls st N (g.1, i', g.2.2)) : AW K Y h Q pc ls (vr 20 i' :: vr 0 0 :: st) N g := by
  refine r_putG (j := 8) (g' := (g.1, i', g.2.2)) rfl (fun ad => rfl) (fun ad j' hj => ?_) (fun a b c => ⟨b, a⟩) (by decide) rfl hlink rfl (by decide +kernel) hat kk
  have : rf (g.1, i', g.2.2) 0 0 j' = rf g 0 0 j' := by
    unfold rf; simp only; split <;> first | rfl | exact absurd rfl hj
  unfold fv; rw [this]
end Swap
