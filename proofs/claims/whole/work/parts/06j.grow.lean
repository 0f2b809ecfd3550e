/-! own text: the three arrays of a line grow -/
def gG (g : Ge) (i M : Nat) : Ge := (g.1, g.2.1, fun a => if a = i then M else g.2.2 a)
def NG3 (N : Nm) (i r : Nat) : Nm := NG (NG (NG N 13 i r) 14 i r) 15 i r
def lG3 (g : Ge) (i M : Nat) : Nat → Nat → Nat := lG (lG (lG (ln g) 13 i M) 14 i M) 15 i M
theorem HoldL.room {K : Kx} {g : Ge} {l : Nat → Nat → Nat} {N : Nm} {ad : Nat → Nat → Nat} {H : Heap} {i M : Nat} (h : HoldL K g l N ad H) : HoldL K (gG g i M) l N ad H := h
theorem lG3_ln {g : Ge} {i M : Nat} : lG3 g i M = ln (gG g i M) := by
  funext k a
  unfold lG3 lG
  by_cases e15 : k = 15 ∧ a = i
  · rw [if_pos e15, e15.1, e15.2]; exact (if_pos rfl).symm
  · rw [if_neg e15]
    by_cases e14 : k = 14 ∧ a = i
    · rw [if_pos e14, e14.1, e14.2]; exact (if_pos rfl).symm
    · rw [if_neg e14]
      by_cases e13 : k = 13 ∧ a = i
      · rw [if_pos e13, e13.1, e13.2]; exact (if_pos rfl).symm
      · rw [if_neg e13]
        unfold ln
        split
        all_goals first
          | rfl
          | (show g.2.2 a = if a = i then M else g.2.2 a
             rw [if_neg (fun z => by first | exact e13 ⟨rfl, z⟩ | exact e14 ⟨rfl, z⟩ | exact e15 ⟨rfl, z⟩)])
theorem pot_gG {g : Ge} {i r : Nat} (hi : i < 8) (hr : r = g.2.2 i) (h8 : r ≤ 8192) : pot (gG g i (2 * r)) + r = pot g := by
  have hc : i = 0 ∨ i = 1 ∨ i = 2 ∨ i = 3 ∨ i = 4 ∨ i = 5 ∨ i = 6 ∨ i = 7 := by omega
  subst hr
  unfold pot gG
  rcases hc with e | e | e | e | e | e | e | e <;> subst e <;> simp <;> omega
theorem NG_ne {N : Nm} {k i r k' i' j : Nat} (h : ¬ (k' = k ∧ i' = i)) : NG N k i r k' i' j = N k' i' j := if_neg h
theorem NG3_ne {N : Nm} {i r k a j : Nat} (h : ¬ (13 ≤ k ∧ k ≤ 15 ∧ a = i)) : NG3 N i r k a j = N k a j := by
  unfold NG3
  rw [NG_ne (by omega), NG_ne (by omega), NG_ne (by omega)]
theorem NG3_lt {N : Nm} {i r k a j : Nat} (h : j < r) : NG3 N i r k a j = N k a j := by
  unfold NG3 NG
  by_cases e15 : k = 15 ∧ a = i
  · obtain ⟨rfl, rfl⟩ := e15
    rw [if_pos ⟨rfl, rfl⟩, if_pos h, if_neg (by omega), if_neg (by omega)]
  · rw [if_neg e15]
    by_cases e14 : k = 14 ∧ a = i
    · obtain ⟨rfl, rfl⟩ := e14
      rw [if_pos ⟨rfl, rfl⟩, if_pos h, if_neg (by omega)]
    · rw [if_neg e14]
      by_cases e13 : k = 13 ∧ a = i
      · obtain ⟨rfl, rfl⟩ := e13
        rw [if_pos ⟨rfl, rfl⟩, if_pos h]
      · rw [if_neg e13]
set_option maxHeartbeats 1000000 in
theorem grow3 {K : Kx} {N : Nm} {g : Ge} {i r : Nat} {Pq : Nm → Ge → Prop} (hr : r = g.2.2 i) (h16 : 16 ≤ r) (hr8 : r ≤ 8192) (hq : AW K YX1_makeRoom hX1_makeRoom (qV Pq) 58 [some (vr 12 i), some (vi ((2 * r : Nat) : Int))] [] (NG3 N i r) (gG g i (2 * r))) : AW K YX1_makeRoom hX1_makeRoom (qV Pq) 22 [some (vr 12 i), some (vi ((2 * r : Nat) : Int))] [] N g := by
  intro p e R s m args below meth cd ad0 g0 C H locs cells slots ad L hP hL hl hs
  obtain ⟨hH, hA, hlc, hsz, hlow, hb1, hb2, h9⟩ := hP
  have hi : i < 8 := hl (vr 12 i) List.mem_cons_self
  have hpot := pot_gG hi hr hr8
  have hRc := C.2.2.2.2.2.2.2.2.2.2.1
  have hRs := C.2.2.2.2.2.2.2.2.2.2.2.1
  have hp2 : pot2 N g = pot g + (N 99 0 0).toNat := rfl
  have hL0 : lv_has L 2 [(0, .ref (ad 12 i)), (1, .int (Int32.ofInt ((2 * r : Nat) : Int)))] := hL
  refine growI (k := 13) (jf := 1) (r := r) (M := 2 * r) (nm := "starts") C (Nat.le_refl 2) (hold_L.mp hH) ⟨by omega, by omega⟩ rfl rfl hi hr.symm (by omega) (by omega) hL0 (by omega) (by omega) rfl kFX1_15 iX1_makeRoom_22 iX1_makeRoom_23 iX1_makeRoom_24 iX1_makeRoom_27 iX1_makeRoom_28 iX1_makeRoom_31 ?_
  intro a1 H1 l1 ha1 hH1 hs1 hw1 hq1
  refine growL (k := 14) (jf := 2) (r := r) (M := 2 * r) (nm := "values") C (Nat.le_refl 2) hH1 ⟨by omega, by omega⟩ rfl rfl hi (by rw [lG, if_neg (by omega)]; exact hr.symm) (by omega) (by omega) (by rw [adG_ne (by omega)]; exact hL0) (by omega) (by omega) rfl kFX1_19 iX1_makeRoom_34 iX1_makeRoom_35 iX1_makeRoom_36 iX1_makeRoom_39 iX1_makeRoom_40 iX1_makeRoom_43 ?_
  intro a2 H2 l2 ha2 hH2 hs2 hw2 hq2
  refine growL (k := 15) (jf := 3) (r := r) (M := 2 * r) (nm := "gains") C (Nat.le_refl 2) hH2 ⟨by omega, by omega⟩ rfl rfl hi (by rw [lG, if_neg (by omega), lG, if_neg (by omega)]; exact hr.symm) (by omega) (by omega) (by rw [adG_ne (by omega), adG_ne (by omega)]; exact hL0) (by omega) (by omega) rfl kFX1_23 iX1_makeRoom_46 iX1_makeRoom_47 iX1_makeRoom_48 iX1_makeRoom_51 iX1_makeRoom_52 iX1_makeRoom_55 ?_
  intro a3 H3 l3 ha3 hH3 hs3 hw3 hq3
  have hN9 : NG3 N i r 99 0 0 = N 99 0 0 := NG3_ne (by omega)
  have hp3 : pot2 (NG3 N i r) (gG g i (2 * r)) = pot (gG g i (2 * r)) + (N 99 0 0).toNat := by rw [pot2, hN9]
  have e12 : adG (adG (adG ad 13 i a1) 14 i a2) 15 i a3 12 i = ad 12 i := by rw [adG_ne (by omega), adG_ne (by omega), adG_ne (by omega)]
  have hH3' : Hold K (gG g i (2 * r)) (NG3 N i r) (adG (adG (adG ad 13 i a1) 14 i a2) 15 i a3) H3 := by
    refine hold_L.mpr ?_
    rw [← lG3_ln]
    exact HoldL.room hH3
  refine hq p e R s m args below meth cd ad0 g0 C H3 l3 (cells + 1 + 1 + 1) (slots + 2 * r + 2 * r + 2 * r) _ L ⟨hH3', ?_, ?_, by omega, ?_, by rw [hp3]; omega, by rw [hp3]; omega, h9⟩ ?_ hl hs
  · intro k' i' hc hm
    have hm' : k' ≠ 13 ∧ k' ≠ 14 ∧ k' ≠ 15 := by
      refine ⟨fun z => ?_, fun z => ?_, fun z => ?_⟩ <;> rw [z] at hm <;> exact absurd hm (by decide)
    rw [adG_ne (by omega), adG_ne (by omega), adG_ne (by omega)]
    exact hA k' i' hc hm
  · intro z hz
    rcases hq3 z hz with h | h
    · rcases hq2 z h with h | h
      · rcases hq1 z h with h | h
        · exact hlc z h
        · exact h
      · exact h
    · exact h
  · intro q hq
    rw [hw3 q hq, hw2 q hq, hw1 q hq]
    exact hlow q hq
  · show lv_has L 2 [(0, .ref (adG (adG (adG ad 13 i a1) 14 i a2) 15 i a3 12 i)), (1, .int (Int32.ofInt ((2 * r : Nat) : Int)))]
    rw [e12]
    exact hL0
