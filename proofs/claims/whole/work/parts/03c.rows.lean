/-! own text: the rows of the logic, an instruction each -/
abbrev rI (z : Int) : Prop := -2147483648 ≤ z ∧ z ≤ 2147483647
abbrev rL (z : Int) : Prop := -9223372036854775808 ≤ z ∧ z ≤ 9223372036854775807
theorem toI {z : Int} (h : rI z) : (Int32.ofInt z).toInt = z := by
  have h1 := h.1
  have h2 := h.2
  rw [Int32.toInt_ofInt]
  have : (z.bmod (2 ^ 32)) = z := by
    rw [Int.bmod_def]
    omega
  exact this
theorem toL {z : Int} (h : rL z) : (Int64.ofInt z).toInt = z := by
  have h1 := h.1
  have h2 := h.2
  rw [Int64.toInt_ofInt]
  have : (z.bmod (2 ^ 64)) = z := by
    rw [Int.bmod_def]
    omega
  exact this
theorem ofI (x : Int32) : Int32.ofInt x.toInt = x := Int32.ofInt_toInt x
theorem ofL (x : Int64) : Int64.ofInt x.toInt = x := Int64.ofInt_toInt x
theorem rI_of (x : Int32) : rI x.toInt := ⟨by have := Int32.le_toInt x; omega, by have := Int32.toInt_lt x; omega⟩
theorem rL_of (x : Int64) : rL x.toInt := ⟨by have := Int64.le_toInt x; omega, by have := Int64.toInt_lt x; omega⟩
theorem eqI {a b : Int} (ha : rI a) (hb : rI b) : Int32.ofInt a = Int32.ofInt b ↔ a = b := ⟨fun h => by rw [← toI ha, ← toI hb, h], fun h => by rw [h]⟩
theorem eqL {a b : Int} (ha : rL a) (hb : rL b) : Int64.ofInt a = Int64.ofInt b ↔ a = b := ⟨fun h => by rw [← toL ha, ← toL hb, h], fun h => by rw [h]⟩
theorem ltI {a b : Int} (ha : rI a) (hb : rI b) : Int32.ofInt a < Int32.ofInt b ↔ a < b := by rw [Int32.lt_iff_toInt_lt, toI ha, toI hb]
theorem leI {a b : Int} (ha : rI a) (hb : rI b) : Int32.ofInt a ≤ Int32.ofInt b ↔ a ≤ b := by rw [Int32.le_iff_toInt_le, toI ha, toI hb]
theorem ltL {a b : Int} (ha : rL a) (hb : rL b) : Int64.ofInt a < Int64.ofInt b ↔ a < b := by rw [Int64.lt_iff_toInt_lt, toL ha, toL hb]
theorem leL {a b : Int} (ha : rL a) (hb : rL b) : Int64.ofInt a ≤ Int64.ofInt b ↔ a ≤ b := by rw [Int64.le_iff_toInt_le, toL ha, toL hb]
theorem rI0 : rI 0 := ⟨by omega, by omega⟩
theorem rL0 : rL 0 := ⟨by omega, by omega⟩
theorem zI : (0 : Int32) = Int32.ofInt 0 := rfl
section Rows
variable {K : Kx} {Y : Ys} {h : Nat} {Q : Qt} {pc pc' pc1 tg : Nat} {ls : List (Option AV)} {st : List AV} {N : Nm} {g : Ge}
/-! constants -/
theorem r_iconst {v : Int} (hat : At Y pc (.iconst v) 1 pc') (kk : AW K Y h Q pc' ls (vi v :: st) N g) : AW K Y h Q pc ls st N g := by
  obtain ⟨d, rfl⟩ := hat
  exact AW.pure kk (fun h1 h2 => ⟨h1, oks_cons trivial h2⟩) (fun p l e R s m args below meth c H locs cells slots Qs ad L hx hb _ _ hL k => lv_iconst hx hb d rfl (k L hL))
theorem r_bipush {v : Int} (hz : (Int8.ofInt v).toInt32 = Int32.ofInt v) (hat : At Y pc (.bipush v) 2 pc') (kk : AW K Y h Q pc' ls (vi v :: st) N g) : AW K Y h Q pc ls st N g := by
  obtain ⟨d, rfl⟩ := hat
  exact AW.pure kk (fun h1 h2 => ⟨h1, oks_cons trivial h2⟩) (fun p l e R s m args below meth c H locs cells slots Qs ad L hx hb _ _ hL k => lv_bipush hx hb d hz (k L hL))
theorem r_sipush {v : Int} (hz : (Int16.ofInt v).toInt32 = Int32.ofInt v) (hat : At Y pc (.sipush v) 3 pc') (kk : AW K Y h Q pc' ls (vi v :: st) N g) : AW K Y h Q pc ls st N g := by
  obtain ⟨d, rfl⟩ := hat
  exact AW.pure kk (fun h1 h2 => ⟨h1, oks_cons trivial h2⟩) (fun p l e R s m args below meth c H locs cells slots Qs ad L hx hb _ _ hL k => lv_sipush hx hb d hz (k L hL))
theorem r_lconst {n : Fin 2} {v : Int} (hv : Int64.ofNat (n : Nat) = Int64.ofInt v) (hat : At Y pc (.lconst n) 1 pc') (kk : AW K Y h Q pc' ls (vl v :: st) N g) : AW K Y h Q pc ls st N g := by
  obtain ⟨d, rfl⟩ := hat
  exact AW.pure kk (fun h1 h2 => ⟨h1, oks_cons trivial h2⟩) (fun p l e R s m args below meth c H locs cells slots Qs ad L hx hb _ _ hL k => lv_lconst hx hb d hv (k L hL))
theorem r_ldc {idx : Nat} {v : Int32} {z : Int} (hc : Cond.constant Y.1.cls idx v ∈ TW) (hz : Int32.ofInt z = v) (hat : At Y pc (.ldc idx) 2 pc') (kk : AW K Y h Q pc' ls (vi z :: st) N g) : AW K Y h Q pc ls st N g := by
  obtain ⟨d, rfl⟩ := hat
  subst hz
  exact AW.pure kk (fun h1 h2 => ⟨h1, oks_cons trivial h2⟩) (fun p l e R s m args below meth c H locs cells slots Qs ad L hx hb ho hts hL k => lv_ldc hx hb ho (hts _ hc) d (k L hL))
theorem r_ldcw {idx : Nat} {v : Int32} {z : Int} (hc : Cond.constant Y.1.cls idx v ∈ TW) (hz : Int32.ofInt z = v) (hat : At Y pc (.ldc_w idx) 3 pc') (kk : AW K Y h Q pc' ls (vi z :: st) N g) : AW K Y h Q pc ls st N g := by
  obtain ⟨d, rfl⟩ := hat
  subst hz
  exact AW.pure kk (fun h1 h2 => ⟨h1, oks_cons trivial h2⟩) (fun p l e R s m args below meth c H locs cells slots Qs ad L hx hb ho hts hL k => lv_ldcw hx hb ho (hts _ hc) d (k L hL))
theorem r_ldc2 {idx : Nat} {v : Int64} {z : Int} (hc : Cond.constantLong Y.1.cls idx v ∈ TW) (hz : Int64.ofInt z = v) (hat : At Y pc (.ldc2_w idx) 3 pc') (kk : AW K Y h Q pc' ls (vl z :: st) N g) : AW K Y h Q pc ls st N g := by
  obtain ⟨d, rfl⟩ := hat
  subst hz
  exact AW.pure kk (fun h1 h2 => ⟨h1, oks_cons trivial h2⟩) (fun p l e R s m args below meth c H locs cells slots Qs ad L hx hb ho hts hL k => lv_ldc2 hx hb ho (hts _ hc) d (k L hL))
theorem r_ldc2d {idx : Nat} {v : UInt64} (hc : Cond.constantDouble Y.1.cls idx v ∈ TW) (hat : At Y pc (.ldc2_w idx) 3 pc') (kk : AW K Y h Q pc' ls (vd v :: st) N g) : AW K Y h Q pc ls st N g := by
  obtain ⟨d, rfl⟩ := hat
  exact AW.pure kk (fun h1 h2 => ⟨h1, oks_cons trivial h2⟩) (fun p l e R s m args below meth c H locs cells slots Qs ad L hx hb ho hts hL k => lv_ldc2d hx hb ho (hts _ hc) d (k L hL))
theorem r_ldcf {idx : Nat} {v : UInt32} (hc : Cond.constantFloat Y.1.cls idx v ∈ TW) (hat : At Y pc (.ldc idx) 2 pc') (kk : AW K Y h Q pc' ls (vf v :: st) N g) : AW K Y h Q pc ls st N g := by
  obtain ⟨d, rfl⟩ := hat
  exact AW.pure kk (fun h1 h2 => ⟨h1, oks_cons trivial h2⟩) (fun p l e R s m args below meth c H locs cells slots Qs ad L hx hb ho hts hL k => lv_ldcf hx hb ho (hts _ hc) d (k L hL))
/-! locals -/
theorem okl_at {i : Nat} {v : AV} (h1 : okl ls) (hi : ls[i]? = some (some v)) : okv v := h1 v (List.mem_of_getElem? hi)
theorem g_ild {i : Nat} {z : Int} {ins : Instr} {n : Nat} (hins : (ins = .iload i ∧ n = 2) ∨ ∃ k : Fin 4, ins = .iload_n k ∧ (k : Nat) = i ∧ n = 1) (hat : At Y pc ins n pc') (hi : ls[i]? = some (some (vi z))) (kk : AW K Y h Q pc' ls (vi z :: st) N g) : AW K Y h Q pc ls st N g := by
  obtain ⟨d, rfl⟩ := hat
  refine AW.pure kk (fun h1 h2 => ⟨h1, oks_cons trivial h2⟩) (fun p l e R s m args below meth c H locs cells slots Qs ad L hx hb _ _ hL k => ?_)
  rcases hins with ⟨rfl, rfl⟩ | ⟨q, rfl, e, rfl⟩
  · exact lv_iload hx hb d (lvs_at hL hi) (k L hL)
  · exact lv_iload_n hx hb d e (lvs_at hL hi) (k L hL)
theorem g_lld {i : Nat} {z : Int} {ins : Instr} {n : Nat} (hins : (ins = .lload i ∧ n = 2) ∨ ∃ k : Fin 4, ins = .lload_n k ∧ (k : Nat) = i ∧ n = 1) (hat : At Y pc ins n pc') (hi : ls[i]? = some (some (vl z))) (kk : AW K Y h Q pc' ls (vl z :: st) N g) : AW K Y h Q pc ls st N g := by
  obtain ⟨d, rfl⟩ := hat
  refine AW.pure kk (fun h1 h2 => ⟨h1, oks_cons trivial h2⟩) (fun p l e R s m args below meth c H locs cells slots Qs ad L hx hb _ _ hL k => ?_)
  rcases hins with ⟨rfl, rfl⟩ | ⟨q, rfl, e, rfl⟩
  · exact lv_lload hx hb d (lvs_at hL hi) (k L hL)
  · exact lv_lload_n hx hb d e (lvs_at hL hi) (k L hL)
theorem g_ald {i k0 i0 : Nat} {ins : Instr} {n : Nat} (hins : (ins = .aload i ∧ n = 2) ∨ ∃ k : Fin 4, ins = .aload_n k ∧ (k : Nat) = i ∧ n = 1) (hat : At Y pc ins n pc') (hi : ls[i]? = some (some (vr k0 i0))) (kk : AW K Y h Q pc' ls (vr k0 i0 :: st) N g) : AW K Y h Q pc ls st N g := by
  obtain ⟨d, rfl⟩ := hat
  refine AW.pure kk (fun h1 h2 => ⟨h1, oks_cons (okl_at h1 hi) h2⟩) (fun p l e R s m args below meth c H locs cells slots Qs ad L hx hb _ _ hL k => ?_)
  rcases hins with ⟨rfl, rfl⟩ | ⟨q, rfl, e, rfl⟩
  · exact lv_aload hx hb d (lvs_at hL hi) (k L hL)
  · exact lv_aload_n hx hb d e (lvs_at hL hi) (k L hL)
theorem g_dld {i : Nat} {z : UInt64} {ins : Instr} {n : Nat} (hins : (ins = .dload i ∧ n = 2) ∨ ∃ k : Fin 4, ins = .dload_n k ∧ (k : Nat) = i ∧ n = 1) (hat : At Y pc ins n pc') (hi : ls[i]? = some (some (vd z))) (kk : AW K Y h Q pc' ls (vd z :: st) N g) : AW K Y h Q pc ls st N g := by
  obtain ⟨d, rfl⟩ := hat
  refine AW.pure kk (fun h1 h2 => ⟨h1, oks_cons trivial h2⟩) (fun p l e R s m args below meth c H locs cells slots Qs ad L hx hb _ _ hL k => ?_)
  rcases hins with ⟨rfl, rfl⟩ | ⟨q, rfl, e, rfl⟩
  · exact lv_dload hx hb d (lvs_at hL hi) (k L hL)
  · exact lv_dload_n hx hb d e (lvs_at hL hi) (k L hL)
theorem g_fld {i : Nat} {z : UInt32} {ins : Instr} {n : Nat} (hins : (ins = .fload i ∧ n = 2) ∨ ∃ k : Fin 4, ins = .fload_n k ∧ (k : Nat) = i ∧ n = 1) (hat : At Y pc ins n pc') (hi : ls[i]? = some (some (vf z))) (kk : AW K Y h Q pc' ls (vf z :: st) N g) : AW K Y h Q pc ls st N g := by
  obtain ⟨d, rfl⟩ := hat
  refine AW.pure kk (fun h1 h2 => ⟨h1, oks_cons trivial h2⟩) (fun p l e R s m args below meth c H locs cells slots Qs ad L hx hb _ _ hL k => ?_)
  rcases hins with ⟨rfl, rfl⟩ | ⟨q, rfl, e, rfl⟩
  · exact lv_fload hx hb d (lvs_at hL hi) (k L hL)
  · exact lv_fload_n hx hb d e (lvs_at hL hi) (k L hL)
/-- fewer locals are known: a place is forgotten -/
def fgt (ls ls' : List (Option AV)) : Prop := ∀ (i : Nat) (v : AV), ls'[i]? = some (some v) → ls[i]? = some (some v)
theorem AW.forget {ls' : List (Option AV)} (hf : fgt ls ls') (kk : AW K Y h Q pc ls' st N g) : AW K Y h Q pc ls st N g := by
  intro p e R s m args below meth c ad0 g0 C H locs cells slots ad L hP hL hl hs
  refine kk p e R s m args below meth c ad0 g0 C H locs cells slots ad L hP ⟨hL.1, hL.2.1, fun q hq => ?_⟩ (fun v hv => ?_) hs
  · obtain ⟨i, v, h1, rfl⟩ := (lvs_in ad ls' 0 q).mp hq
    exact hL.2.2 _ ((lvs_in ad ls 0 _).mpr ⟨i, v, hf i v h1, rfl⟩)
  · obtain ⟨i, hi⟩ := List.getElem?_of_mem hv
    exact hl v (List.mem_of_getElem? (hf i v hi))
/-- what stands just ahead of a place that is written is no first half -/
def c1 (v : Option AV) : Bool := match v with
  | none => true
  | some w => cat w == 1
def st1 (ls : List (Option AV)) (i : Nat) (v : AV) (ls' : List (Option AV)) : Prop := i < ls.length ∧ ls' = ls.set i (some v) ∧ (∀ j, j + 1 = i → ∀ w, ls[j]? = some (some w) → cat w = 1)
def st2 (ls : List (Option AV)) (i : Nat) (v : AV) (ls' : List (Option AV)) : Prop := i + 1 < ls.length ∧ ls' = (ls.set i (some v)).set (i + 1) none ∧ (∀ j, j + 1 = i → ∀ w, ls[j]? = some (some w) → cat w = 1)
theorem lvs_st1 {ad : Nat → Nat → Nat} {ls' : List (Option AV)} {L : Array Slot} {nL i : Nat} {v : AV} (hs : st1 ls i v ls') (h : lv_has L nL ((i, cv ad v) :: (lvs ad 0 ls).filter (fun q => !(q.1 == i) && !(q.1 + 1 == i && q.2.category == 2)))) : lv_has L nL (lvs ad 0 ls') := by
  obtain ⟨hl, rfl, hp⟩ := hs
  refine ⟨h.1, h.2.1, fun q hq => ?_⟩
  obtain ⟨j, w, hj, rfl⟩ := (lvs_in ad _ 0 q).mp hq
  rw [Nat.zero_add]
  by_cases e : j = i
  · subst e
    rw [List.getElem?_set_self hl] at hj
    simp at hj
    subst hj
    exact h.2.2 (j, cv ad v) List.mem_cons_self
  · rw [List.getElem?_set_ne (Ne.symm e)] at hj
    refine h.2.2 (j, cv ad w) (List.mem_cons_of_mem _ (List.mem_filter.mpr ⟨(lvs_in ad ls 0 _).mpr ⟨j, w, hj, by rw [Nat.zero_add]⟩, ?_⟩))
    simp only [Bool.and_eq_true, Bool.not_eq_true', beq_eq_false_iff_ne, ne_eq, Bool.and_eq_false_imp, beq_iff_eq]
    refine ⟨e, fun q => ?_⟩
    rw [cv_cat, hp j q w hj]
    decide
theorem lvs_st2 {ad : Nat → Nat → Nat} {ls' : List (Option AV)} {L : Array Slot} {nL i : Nat} {v : AV} (hs : st2 ls i v ls') (h : lv_has L nL ((i, cv ad v) :: (lvs ad 0 ls).filter (fun q => !(q.1 == i) && (!(q.1 == i + 1) && !(q.1 + 1 == i && q.2.category == 2))))) : lv_has L nL (lvs ad 0 ls') := by
  obtain ⟨hl, rfl, hp⟩ := hs
  refine ⟨h.1, h.2.1, fun q hq => ?_⟩
  obtain ⟨j, w, hj, rfl⟩ := (lvs_in ad _ 0 q).mp hq
  rw [Nat.zero_add]
  by_cases e2 : j = i + 1
  · subst e2
    rw [List.getElem?_set_self (by simpa using hl)] at hj
    simp at hj
  rw [List.getElem?_set_ne (Ne.symm e2)] at hj
  by_cases e : j = i
  · subst e
    rw [List.getElem?_set_self (by omega)] at hj
    simp at hj
    subst hj
    exact h.2.2 (j, cv ad v) List.mem_cons_self
  · rw [List.getElem?_set_ne (Ne.symm e)] at hj
    refine h.2.2 (j, cv ad w) (List.mem_cons_of_mem _ (List.mem_filter.mpr ⟨(lvs_in ad ls 0 _).mpr ⟨j, w, hj, by rw [Nat.zero_add]⟩, ?_⟩))
    simp only [Bool.and_eq_true, Bool.not_eq_true', beq_eq_false_iff_ne, ne_eq, Bool.and_eq_false_imp, beq_iff_eq]
    refine ⟨e, e2, fun q => ?_⟩
    rw [cv_cat, hp j q w hj]
    decide
theorem okl_st1 {ls' : List (Option AV)} {i : Nat} {v : AV} (hs : st1 ls i v ls') (h1 : okl ls) (h2 : okv v) : okl ls' := by
  obtain ⟨hl, rfl, -⟩ := hs
  intro w hw
  rcases List.mem_or_eq_of_mem_set hw with h | h
  · exact h1 w h
  · cases h; exact h2
theorem okl_st2 {ls' : List (Option AV)} {i : Nat} {v : AV} (hs : st2 ls i v ls') (h1 : okl ls) (h2 : okv v) : okl ls' := by
  obtain ⟨hl, rfl, -⟩ := hs
  intro w hw
  rcases List.mem_or_eq_of_mem_set hw with h | h
  · rcases List.mem_or_eq_of_mem_set h with h | h
    · exact h1 w h
    · cases h; exact h2
  · cases h
theorem g_ist {ls' : List (Option AV)} {i : Nat} {z : Int} {ins : Instr} {n : Nat} (hn : i < Y.2.2.1) (hins : (ins = .istore i ∧ n = 2) ∨ ∃ k : Fin 4, ins = .istore_n k ∧ (k : Nat) = i ∧ n = 1) (hat : At Y pc ins n pc') (hs : st1 ls i (vi z) ls') (kk : AW K Y h Q pc' ls' st N g) : AW K Y h Q pc ls (vi z :: st) N g := by
  obtain ⟨d, rfl⟩ := hat
  refine AW.pure kk (fun h1 h2 => ⟨okl_st1 hs h1 trivial, oks_tl h2⟩) (fun p l e R s m args below meth c H locs cells slots Qs ad L hx hb _ _ hL k => ?_)
  rcases hins with ⟨rfl, rfl⟩ | ⟨q, rfl, e, rfl⟩
  · exact lv_istore hx hb d hL hn rfl (fun L' hL' => k L' (lvs_st1 (v := vi z) hs hL'))
  · exact lv_istore_n hx hb d e hL hn rfl (fun L' hL' => k L' (lvs_st1 (v := vi z) hs hL'))
theorem g_lst {ls' : List (Option AV)} {i : Nat} {z : Int} {ins : Instr} {n : Nat} (hn : i + 1 < Y.2.2.1) (hins : (ins = .lstore i ∧ n = 2) ∨ ∃ k : Fin 4, ins = .lstore_n k ∧ (k : Nat) = i ∧ n = 1) (hat : At Y pc ins n pc') (hs : st2 ls i (vl z) ls') (kk : AW K Y h Q pc' ls' st N g) : AW K Y h Q pc ls (vl z :: st) N g := by
  obtain ⟨d, rfl⟩ := hat
  refine AW.pure kk (fun h1 h2 => ⟨okl_st2 hs h1 trivial, oks_tl h2⟩) (fun p l e R s m args below meth c H locs cells slots Qs ad L hx hb _ _ hL k => ?_)
  rcases hins with ⟨rfl, rfl⟩ | ⟨q, rfl, e, rfl⟩
  · exact lv_lstore hx hb d hL hn rfl (fun L' hL' => k L' (lvs_st2 (v := vl z) hs hL'))
  · exact lv_lstore_n hx hb d e hL hn rfl (fun L' hL' => k L' (lvs_st2 (v := vl z) hs hL'))
theorem g_ast {ls' : List (Option AV)} {i k0 i0 : Nat} {ins : Instr} {n : Nat} (hn : i < Y.2.2.1) (hins : (ins = .astore i ∧ n = 2) ∨ ∃ k : Fin 4, ins = .astore_n k ∧ (k : Nat) = i ∧ n = 1) (hat : At Y pc ins n pc') (hs : st1 ls i (vr k0 i0) ls') (kk : AW K Y h Q pc' ls' st N g) : AW K Y h Q pc ls (vr k0 i0 :: st) N g := by
  obtain ⟨d, rfl⟩ := hat
  refine AW.pure kk (fun h1 h2 => ⟨okl_st1 hs h1 (oks_hd h2), oks_tl h2⟩) (fun p l e R s m args below meth c H locs cells slots Qs ad L hx hb _ _ hL k => ?_)
  rcases hins with ⟨rfl, rfl⟩ | ⟨q, rfl, e, rfl⟩
  · exact lv_astore hx hb d hL hn rfl (fun L' hL' => k L' (lvs_st1 (v := vr k0 i0) hs hL'))
  · exact lv_astore_n hx hb d e hL hn rfl (fun L' hL' => k L' (lvs_st1 (v := vr k0 i0) hs hL'))
theorem g_dst {ls' : List (Option AV)} {i : Nat} {z : UInt64} {ins : Instr} {n : Nat} (hn : i + 1 < Y.2.2.1) (hins : (ins = .dstore i ∧ n = 2) ∨ ∃ k : Fin 4, ins = .dstore_n k ∧ (k : Nat) = i ∧ n = 1) (hat : At Y pc ins n pc') (hs : st2 ls i (vd z) ls') (kk : AW K Y h Q pc' ls' st N g) : AW K Y h Q pc ls (vd z :: st) N g := by
  obtain ⟨d, rfl⟩ := hat
  refine AW.pure kk (fun h1 h2 => ⟨okl_st2 hs h1 trivial, oks_tl h2⟩) (fun p l e R s m args below meth c H locs cells slots Qs ad L hx hb _ _ hL k => ?_)
  rcases hins with ⟨rfl, rfl⟩ | ⟨q, rfl, e, rfl⟩
  · exact lv_dstore hx hb d hL hn rfl (fun L' hL' => k L' (lvs_st2 (v := vd z) hs hL'))
  · exact lv_dstore_n hx hb d e hL hn rfl (fun L' hL' => k L' (lvs_st2 (v := vd z) hs hL'))
theorem g_iinc {ls' : List (Option AV)} {i : Nat} {z w : Int} (hn : i < Y.2.2.1) (hat : At Y pc (.iinc i w) 3 pc') (hi : ls[i]? = some (some (vi z))) (hs : st1 ls i (vi (z + w)) ls') (kk : AW K Y h Q pc' ls' st N g) : AW K Y h Q pc ls st N g := by
  obtain ⟨d, rfl⟩ := hat
  refine AW.pure kk (fun h1 h2 => ⟨okl_st1 hs h1 trivial, h2⟩) (fun p l e R s m args below meth c H locs cells slots Qs ad L hx hb _ _ hL k => ?_)
  obtain ⟨q, hq⟩ := List.getElem?_of_mem ((lvs_in ad ls 0 (i, cv ad (vi z))).mpr ⟨i, vi z, hi, by rw [Nat.zero_add]⟩)
  exact lv_iinc hx hb d hL hq (v := Int32.ofInt (z + w)) (Int32.ofInt_add z w).symm hn rfl (fun L' hL' => k L' (lvs_st1 (v := vi (z + w)) hs hL'))
end Rows
