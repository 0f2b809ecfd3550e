/-! own text, printed by wip/whole/gen/mk22e.py: all that the law's start makes, and which cell of which family lies where -/
def TM1 : List Cz := [zd 7]
def TM2 : List Cz := TM1.set 0 (tc TM1.length oX9) ++ sX9.map (tc TM1.length)
def TM3 : List Cz := TM2 ++ [zd 8]
def TM4 : List Cz := TM3.set 149 (tc TM3.length oX10) ++ sX10.map (tc TM3.length)
def TM : List Cz := TM4 ++ [(1, 1, 1, [])]
def OT : List (List Nat) := [[0], [1], [2], [3], [4], [5], [6], [7], [8], [9], [10, 11, 12, 13, 14, 15], [16], [17, 21, 25, 29, 33, 37, 41, 45], [18, 22, 26, 30, 34, 38, 42, 46], [19, 23, 27, 31, 35, 39, 43, 47], [20, 24, 28, 32, 36, 40, 44, 48], [49], [50], [51], [52], [53, 101], [54, 102], [55, 103], [56, 57, 58, 59, 60, 61, 62, 104, 105, 106, 107, 108, 109, 110], [63, 111], [64, 65, 66, 67, 68, 69, 70, 112, 113, 114, 115, 116, 117, 118], [71, 119], [72, 120], [73, 121], [74, 75, 76, 77, 78, 79, 122, 123, 124, 125, 126, 127], [80, 128], [81, 82, 83, 84, 85, 86, 129, 130, 131, 132, 133, 134], [87, 135], [88, 89, 90, 91, 92, 93, 136, 137, 138, 139, 140, 141], [94, 142], [95, 96, 97, 98, 99, 100, 143, 144, 145, 146, 147, 148], [], [], [], [], [149], [150], [151], [152], [153], [154], [155], [156], [157], [158], [159], [160], [161], [162], [163], [164], [165], [166], [167], [168], [169], [0]]
def IV : List (Nat × Nat) := [(0, 0), (1, 0), (2, 0), (3, 0), (4, 0), (5, 0), (6, 0), (7, 0), (8, 0), (9, 0), (10, 0), (10, 1), (10, 2), (10, 3), (10, 4), (10, 5), (11, 0), (12, 0), (13, 0), (14, 0), (15, 0), (12, 1), (13, 1), (14, 1), (15, 1), (12, 2), (13, 2), (14, 2), (15, 2), (12, 3), (13, 3), (14, 3), (15, 3), (12, 4), (13, 4), (14, 4), (15, 4), (12, 5), (13, 5), (14, 5), (15, 5), (12, 6), (13, 6), (14, 6), (15, 6), (12, 7), (13, 7), (14, 7), (15, 7), (16, 0), (17, 0), (18, 0), (19, 0), (20, 0), (21, 0), (22, 0), (23, 0), (23, 1), (23, 2), (23, 3), (23, 4), (23, 5), (23, 6), (24, 0), (25, 0), (25, 1), (25, 2), (25, 3), (25, 4), (25, 5), (25, 6), (26, 0), (27, 0), (28, 0), (29, 0), (29, 1), (29, 2), (29, 3), (29, 4), (29, 5), (30, 0), (31, 0), (31, 1), (31, 2), (31, 3), (31, 4), (31, 5), (32, 0), (33, 0), (33, 1), (33, 2), (33, 3), (33, 4), (33, 5), (34, 0), (35, 0), (35, 1), (35, 2), (35, 3), (35, 4), (35, 5), (20, 1), (21, 1), (22, 1), (23, 7), (23, 8), (23, 9), (23, 10), (23, 11), (23, 12), (23, 13), (24, 1), (25, 7), (25, 8), (25, 9), (25, 10), (25, 11), (25, 12), (25, 13), (26, 1), (27, 1), (28, 1), (29, 6), (29, 7), (29, 8), (29, 9), (29, 10), (29, 11), (30, 1), (31, 6), (31, 7), (31, 8), (31, 9), (31, 10), (31, 11), (32, 1), (33, 6), (33, 7), (33, 8), (33, 9), (33, 10), (33, 11), (34, 1), (35, 6), (35, 7), (35, 8), (35, 9), (35, 10), (35, 11), (40, 0), (41, 0), (42, 0), (43, 0), (44, 0), (45, 0), (46, 0), (47, 0), (48, 0), (49, 0), (50, 0), (51, 0), (52, 0), (53, 0), (54, 0), (55, 0), (56, 0), (57, 0), (58, 0), (59, 0), (60, 0)]
def off (k i : Nat) : Nat := (OT.getD k []).getD i 0
def gS : Ge := (0, 1, fun _ => 16)
def N0 (k i j : Nat) : Int := match TM[off k i]? with
  | some (0, _, _, vs) => (vs.getD j (3, 0, 0)).2.1
  | _ => 0
def fchk (c k i j : Nat) (v : Vz) : Bool := match cty c j with
  | .int => v.1 == 0
  | .boolean => v.1 == 0
  | .long => v.1 == 1
  | _ => veq v (2, 0, off (rf gS k i j).1 (rf gS k i j).2)
def chd (k i : Nat) (d : Cz) : Bool :=
  ((kd k).1 == 0 && d.1 == 0 && d.2.1 == (kd k).2 && (List.range (ncl (kd k).2)).all (fun j => fchk (kd k).2 k i j (d.2.2.2.getD j (3, 0, 0)))) || ((kd k).1 == 1 && deq d (1, 0, ln gS k i, []) && (kd k).2 == 0) || ((kd k).1 == 2 && deq d (1, 1, ln gS k i, []) && (kd k).2 == 1) ||
    ((kd k).1 == 3 && (kd k).2 != 0 && (kd k).2 != 1 && deq d (1, (kd k).2, ln gS k i, (List.range (ln gS k i)).map (fun j => (2, 0, off (rf gS k i j).1 (rf gS k i j).2))))
def chk (k i : Nat) : Bool := match TM[off k i]? with
  | none => false
  | some d => chd k i d
theorem chk_all (k : Nat) (hk : k < 61) (i : Nat) (hi : i < cnt k) : chk k i = true ∧ IV.getD (off k i) (99, 99) = (k, i) := by
  have h : (List.range 61).all (fun k => (List.range (cnt k)).all (fun i => chk k i && decide (IV.getD (off k i) (99, 99) = (k, i)))) = true := by decide +kernel
  have h1 := List.all_eq_true.mp h k (List.mem_range.mpr hk)
  have h2 := List.all_eq_true.mp h1 i (List.mem_range.mpr hi)
  rw [Bool.and_eq_true, decide_eq_true_eq] at h2
  exact h2
theorem TM_len : TM.length = 170 := by decide +kernel
theorem ncl_ok {c : Nat} {q : vw_C} (h : clsL[c]? = some q) : q.2.2 = ncl c := by
  match c, h with
  | 0, h => cases h; rfl
  | 1, h => cases h; rfl
  | 2, h => cases h; rfl
  | 3, h => cases h; rfl
  | 4, h => cases h; rfl
  | 5, h => cases h; rfl
  | 6, h => cases h; rfl
  | 7, h => cases h; rfl
  | 8, h => cases h; rfl
  | _ + 9, h => cases h
theorem rf_61 (g : Ge) (k i j : Nat) : (rf g k i j).1 ≠ 61 := by
  unfold rf
  split <;> (try split) <;> (intro h; cases h)
theorem cnt_61 {k i : Nat} (h : i < cnt k) : k ≤ 61 := by
  rcases Nat.lt_or_ge 61 k with hk | hk
  · exfalso
    have : cnt k = 0 := by
      unfold cnt
      split <;> first | rfl | omega
    omega
  · exact hk
theorem mk_cell {K : Kx} {H : Heap} {N : Nm} {ad : Nat → Nat → Nat} {k i : Nat} (hC : CH K TM H) (hk : k < 61) (hi : i < cnt k) (hN : ∀ j, N k i j = N0 k i j) (had : ∀ k i, k ≠ 61 → ad k i = K.2.1 + off k i) : hcell K gS N ad k i H := by
  obtain ⟨h1, -⟩ := chk_all k hk i hi
  unfold chk at h1
  split at h1
  · cases h1
  · rename_i d hd
    have hz := hC.2 _ _ hd
    have ea : ad k i = K.2.1 + off k i := had k i (by omega)
    have er : ∀ j, ad (rf gS k i j).1 (rf gS k i j).2 = K.2.1 + off (rf gS k i j).1 (rf gS k i j).2 := fun j => had _ _ (rf_61 gS k i j)
    have eN : ∀ j, N k i j = (match some d with | some (0, _, _, vs) => (vs.getD j (3, 0, 0)).2.1 | _ => 0) := fun j => by
      rw [hN j]
      unfold N0
      rw [hd]
    obtain ⟨x, c, ek⟩ : ∃ x c, kd k = (x, c) := ⟨(kd k).1, (kd k).2, rfl⟩
    obtain ⟨d1, d2, d3, d4⟩ := d
    simp only [chd, ek, Bool.or_eq_true, Bool.and_eq_true, beq_iff_eq, bne_iff_ne, ne_eq] at h1
    unfold hcell
    rw [ek, ea]
    rcases h1 with ((⟨⟨⟨a1, a2⟩, a3⟩, a4⟩ | ⟨⟨a1, a2⟩, a6⟩) | ⟨⟨a1, a2⟩, a6⟩) | ⟨⟨⟨a1, a6⟩, a7⟩, a2⟩
    · subst a1; subst a2; subst a3
      obtain ⟨q, q1, q2⟩ := hz
      refine ⟨q, q1, q2.to (fun j hj => ?_)⟩
      rw [ncl_ok q1] at hj
      have hf := List.all_eq_true.mp a4 j (List.mem_range.mpr hj)
      show zv K.2.1 (d4.getD j (3, 0, 0)) = fv gS N ad d2 k i j
      have e0 : N k i j = (d4.getD j (3, 0, 0)).2.1 := eN j
      unfold fv
      unfold fchk at hf
      rw [e0, er]
      generalize d4.getD j (3, 0, 0) = v at hf ⊢
      obtain ⟨v1, v2, v3⟩ := v
      cases hct : cty d2 j <;> rw [hct] at hf <;> first | (have hf' : v1 = 0 := eq_of_beq hf; subst hf'; rfl) | (have hf' : v1 = 1 := eq_of_beq hf; subst hf'; rfl) | (have hf' : ((v1, v2, v3) : Vz) = (2, 0, off (rf gS k i j).1 (rf gS k i j).2) := veq_eq hf; rw [hf']; rfl)
    · subst a1; subst a6; cases deq_eq a2
      have hz' : H[K.2.1 + off k i]? = some (arrV (K.2.2.2 0) (ln gS k i) (fun j => zv K.2.1 (([] : List Vz).getD j (dz 0)))) := hz
      refine hz'.trans (congrArg some (arrV_cg (fun j _ => ?_)))
      rw [show N k i j = 0 from eN j]
      rfl
    · subst a1; subst a6; cases deq_eq a2
      have hz' : H[K.2.1 + off k i]? = some (arrV (K.2.2.2 1) (ln gS k i) (fun j => zv K.2.1 (([] : List Vz).getD j (dz 1)))) := hz
      refine hz'.trans (congrArg some (arrV_cg (fun j _ => ?_)))
      rw [show N k i j = 0 from eN j]
      rfl
    · subst a1; cases deq_eq a2
      have hz' : H[K.2.1 + off k i]? = some (arrV (K.2.2.2 c) (ln gS k i) (fun j => zv K.2.1 (((List.range (ln gS k i)).map (fun j => ((2, 0, off (rf gS k i j).1 (rf gS k i j).2) : Vz))).getD j (dz c)))) := hz
      refine hz'.trans (congrArg some (arrV_cg (fun j hj => ?_)))
      rw [List.getD_eq_getElem?_getD, List.getElem?_map, List.getElem?_range hj, er]
      rfl
