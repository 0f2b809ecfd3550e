/-! own text: arithmetic, stack, jumps -/
section Rows2
variable {K : Kx} {Y : Ys} {h : Nat} {Q : Qt} {pc pc' pc1 tg : Nat} {ls : List (Option AV)} {st : List AV} {N : Nm} {g : Ge}
theorem r_iadd {a b : Int} (hat : At Y pc (.iadd) 1 pc') (kk : AW K Y h Q pc' ls (vi (a + b) :: st) N g) : AW K Y h Q pc ls (vi b :: vi a :: st) N g := by
  obtain ⟨d, rfl⟩ := hat
  refine AW.pure kk (fun h1 h2 => ⟨h1, oks_cons trivial (oks_tl (oks_tl h2))⟩) (fun p l e R s m args below meth c H locs cells slots Qs ad L hx hb _ _ hL k => ?_)
  refine lv_iadd hx hb d  ?_
  rw [← Int32.ofInt_add]
  exact k L hL
theorem r_isub {a b : Int} (hat : At Y pc (.isub) 1 pc') (kk : AW K Y h Q pc' ls (vi (a - b) :: st) N g) : AW K Y h Q pc ls (vi b :: vi a :: st) N g := by
  obtain ⟨d, rfl⟩ := hat
  refine AW.pure kk (fun h1 h2 => ⟨h1, oks_cons trivial (oks_tl (oks_tl h2))⟩) (fun p l e R s m args below meth c H locs cells slots Qs ad L hx hb _ _ hL k => ?_)
  refine lv_isub hx hb d  ?_
  rw [← Int32.ofInt_sub]
  exact k L hL
theorem r_imul {a b : Int} (hat : At Y pc (.imul) 1 pc') (kk : AW K Y h Q pc' ls (vi (a * b) :: st) N g) : AW K Y h Q pc ls (vi b :: vi a :: st) N g := by
  obtain ⟨d, rfl⟩ := hat
  refine AW.pure kk (fun h1 h2 => ⟨h1, oks_cons trivial (oks_tl (oks_tl h2))⟩) (fun p l e R s m args below meth c H locs cells slots Qs ad L hx hb _ _ hL k => ?_)
  refine lv_imul hx hb d  ?_
  rw [← Int32.ofInt_mul]
  exact k L hL
theorem divI {a b : Int} (ha : rI a) (hb : rI b) : Int32.ofInt a / Int32.ofInt b = Int32.ofInt (a.tdiv b) := by
  apply Int32.toInt_inj.mp
  rw [Int32.toInt_div, toI ha, toI hb, Int32.toInt_ofInt]
theorem remI {a b : Int} (ha : rI a) (hb : rI b) : Int32.ofInt a - Int32.ofInt a / Int32.ofInt b * Int32.ofInt b = Int32.ofInt (a.tmod b) := by
  rw [divI ha hb, ← Int32.ofInt_mul, ← Int32.ofInt_sub]
  congr 1
  have := Int.tmod_add_mul_tdiv a b
  rw [Int.mul_comm] at this
  omega
theorem nzI {b : Int} (hb : rI b) (h0 : b ≠ 0) : ¬ Int32.ofInt b = 0 := fun q => h0 ((eqI hb rI0).mp q)
theorem r_idiv {a b : Int} (hra : rI a) (hrb : rI b) (h0 : b ≠ 0) (hat : At Y pc (.idiv) 1 pc') (kk : AW K Y h Q pc' ls (vi (a.tdiv b) :: st) N g) : AW K Y h Q pc ls (vi b :: vi a :: st) N g := by
  obtain ⟨d, rfl⟩ := hat
  refine AW.pure kk (fun h1 h2 => ⟨h1, oks_cons trivial (oks_tl (oks_tl h2))⟩) (fun p l e R s m args below meth c H locs cells slots Qs ad L hx hb _ _ hL k => ?_)
  refine lv_idiv hx hb d (nzI hrb h0) ?_
  rw [divI hra hrb]
  exact k L hL
theorem r_irem {a b : Int} (hra : rI a) (hrb : rI b) (h0 : b ≠ 0) (hat : At Y pc (.irem) 1 pc') (kk : AW K Y h Q pc' ls (vi (a.tmod b) :: st) N g) : AW K Y h Q pc ls (vi b :: vi a :: st) N g := by
  obtain ⟨d, rfl⟩ := hat
  refine AW.pure kk (fun h1 h2 => ⟨h1, oks_cons trivial (oks_tl (oks_tl h2))⟩) (fun p l e R s m args below meth c H locs cells slots Qs ad L hx hb _ _ hL k => ?_)
  refine lv_irem hx hb d (nzI hrb h0) ?_
  rw [remI hra hrb]
  exact k L hL
theorem r_ladd {a b : Int} (hat : At Y pc (.ladd) 1 pc') (kk : AW K Y h Q pc' ls (vl (a + b) :: st) N g) : AW K Y h Q pc ls (vl b :: vl a :: st) N g := by
  obtain ⟨d, rfl⟩ := hat
  refine AW.pure kk (fun h1 h2 => ⟨h1, oks_cons trivial (oks_tl (oks_tl h2))⟩) (fun p l e R s m args below meth c H locs cells slots Qs ad L hx hb _ _ hL k => ?_)
  refine lv_ladd hx hb d  ?_
  rw [← Int64.ofInt_add]
  exact k L hL
theorem r_lsub {a b : Int} (hat : At Y pc (.lsub) 1 pc') (kk : AW K Y h Q pc' ls (vl (a - b) :: st) N g) : AW K Y h Q pc ls (vl b :: vl a :: st) N g := by
  obtain ⟨d, rfl⟩ := hat
  refine AW.pure kk (fun h1 h2 => ⟨h1, oks_cons trivial (oks_tl (oks_tl h2))⟩) (fun p l e R s m args below meth c H locs cells slots Qs ad L hx hb _ _ hL k => ?_)
  refine lv_lsub hx hb d  ?_
  rw [← Int64.ofInt_sub]
  exact k L hL
theorem r_lmul {a b : Int} (hat : At Y pc (.lmul) 1 pc') (kk : AW K Y h Q pc' ls (vl (a * b) :: st) N g) : AW K Y h Q pc ls (vl b :: vl a :: st) N g := by
  obtain ⟨d, rfl⟩ := hat
  refine AW.pure kk (fun h1 h2 => ⟨h1, oks_cons trivial (oks_tl (oks_tl h2))⟩) (fun p l e R s m args below meth c H locs cells slots Qs ad L hx hb _ _ hL k => ?_)
  refine lv_lmul hx hb d  ?_
  rw [← Int64.ofInt_mul]
  exact k L hL
theorem divL {a b : Int} (ha : rL a) (hb : rL b) : Int64.ofInt a / Int64.ofInt b = Int64.ofInt (a.tdiv b) := by
  apply Int64.toInt_inj.mp
  rw [Int64.toInt_div, toL ha, toL hb, Int64.toInt_ofInt]
theorem remL {a b : Int} (ha : rL a) (hb : rL b) : Int64.ofInt a - Int64.ofInt a / Int64.ofInt b * Int64.ofInt b = Int64.ofInt (a.tmod b) := by
  rw [divL ha hb, ← Int64.ofInt_mul, ← Int64.ofInt_sub]
  congr 1
  have := Int.tmod_add_mul_tdiv a b
  rw [Int.mul_comm] at this
  omega
theorem nzL {b : Int} (hb : rL b) (h0 : b ≠ 0) : ¬ Int64.ofInt b = 0 := fun q => h0 ((eqL hb rL0).mp q)
theorem r_ldiv {a b : Int} (hra : rL a) (hrb : rL b) (h0 : b ≠ 0) (hat : At Y pc (.ldiv) 1 pc') (kk : AW K Y h Q pc' ls (vl (a.tdiv b) :: st) N g) : AW K Y h Q pc ls (vl b :: vl a :: st) N g := by
  obtain ⟨d, rfl⟩ := hat
  refine AW.pure kk (fun h1 h2 => ⟨h1, oks_cons trivial (oks_tl (oks_tl h2))⟩) (fun p l e R s m args below meth c H locs cells slots Qs ad L hx hb _ _ hL k => ?_)
  refine lv_ldiv hx hb d (nzL hrb h0) ?_
  rw [divL hra hrb]
  exact k L hL
theorem r_lrem {a b : Int} (hra : rL a) (hrb : rL b) (h0 : b ≠ 0) (hat : At Y pc (.lrem) 1 pc') (kk : AW K Y h Q pc' ls (vl (a.tmod b) :: st) N g) : AW K Y h Q pc ls (vl b :: vl a :: st) N g := by
  obtain ⟨d, rfl⟩ := hat
  refine AW.pure kk (fun h1 h2 => ⟨h1, oks_cons trivial (oks_tl (oks_tl h2))⟩) (fun p l e R s m args below meth c H locs cells slots Qs ad L hx hb _ _ hL k => ?_)
  refine lv_lrem hx hb d (nzL hrb h0) ?_
  rw [remL hra hrb]
  exact k L hL
theorem i2l_e {a : Int} (ha : rI a) : (Int32.ofInt a).toInt64 = Int64.ofInt a := by
  apply Int64.toInt_inj.mp
  rw [Int32.toInt_toInt64, toI ha, toL ⟨by have := ha.1; omega, by have := ha.2; omega⟩]
theorem l2i_e (a : Int) : (Int64.ofInt a).toInt32 = Int32.ofInt a := Int64.toInt32_ofInt
theorem r_i2l {a : Int} (ha : rI a) (hat : At Y pc (.i2l) 1 pc') (kk : AW K Y h Q pc' ls (vl (a) :: st) N g) : AW K Y h Q pc ls (vi a :: st) N g := by
  obtain ⟨d, rfl⟩ := hat
  refine AW.pure kk (fun h1 h2 => ⟨h1, oks_cons trivial (oks_tl h2)⟩) (fun p l e R s m args below meth c H locs cells slots Qs ad L hx hb _ _ hL k => ?_)
  exact lv_i2l hx hb d (i2l_e ha) (k L hL)
theorem r_l2i {a : Int} (hat : At Y pc (.l2i) 1 pc') (kk : AW K Y h Q pc' ls (vi (a) :: st) N g) : AW K Y h Q pc ls (vl a :: st) N g := by
  obtain ⟨d, rfl⟩ := hat
  refine AW.pure kk (fun h1 h2 => ⟨h1, oks_cons trivial (oks_tl h2)⟩) (fun p l e R s m args below meth c H locs cells slots Qs ad L hx hb _ _ hL k => ?_)
  exact lv_l2i hx hb d (l2i_e a) (k L hL)
theorem r_lneg {a : Int} (hat : At Y pc (.lneg) 1 pc') (kk : AW K Y h Q pc' ls (vl (-a) :: st) N g) : AW K Y h Q pc ls (vl a :: st) N g := by
  obtain ⟨d, rfl⟩ := hat
  refine AW.pure kk (fun h1 h2 => ⟨h1, oks_cons trivial (oks_tl h2)⟩) (fun p l e R s m args below meth c H locs cells slots Qs ad L hx hb _ _ hL k => ?_)
  refine lv_lneg hx hb d ?_
  rw [← Int64.ofInt_neg]
  exact k L hL
theorem r_iand {a b z : Int} (hz : Int32.ofInt a &&& Int32.ofInt b = Int32.ofInt z) (hat : At Y pc (.iand) 1 pc') (kk : AW K Y h Q pc' ls (vi z :: st) N g) : AW K Y h Q pc ls (vi b :: vi a :: st) N g := by
  obtain ⟨d, rfl⟩ := hat
  refine AW.pure kk (fun h1 h2 => ⟨h1, oks_cons trivial (oks_tl (oks_tl h2))⟩) (fun p l e R s m args below meth c H locs cells slots Qs ad L hx hb _ _ hL k => ?_)
  refine lv_iand hx hb d ?_
  rw [hz]
  exact k L hL
theorem r_ior {a b z : Int} (hz : Int32.ofInt a ||| Int32.ofInt b = Int32.ofInt z) (hat : At Y pc (.ior) 1 pc') (kk : AW K Y h Q pc' ls (vi z :: st) N g) : AW K Y h Q pc ls (vi b :: vi a :: st) N g := by
  obtain ⟨d, rfl⟩ := hat
  refine AW.pure kk (fun h1 h2 => ⟨h1, oks_cons trivial (oks_tl (oks_tl h2))⟩) (fun p l e R s m args below meth c H locs cells slots Qs ad L hx hb _ _ hL k => ?_)
  refine lv_ior hx hb d ?_
  rw [hz]
  exact k L hL
theorem r_land {a b z : Int} (hz : Int64.ofInt a &&& Int64.ofInt b = Int64.ofInt z) (hat : At Y pc (.land) 1 pc') (kk : AW K Y h Q pc' ls (vl z :: st) N g) : AW K Y h Q pc ls (vl b :: vl a :: st) N g := by
  obtain ⟨d, rfl⟩ := hat
  refine AW.pure kk (fun h1 h2 => ⟨h1, oks_cons trivial (oks_tl (oks_tl h2))⟩) (fun p l e R s m args below meth c H locs cells slots Qs ad L hx hb _ _ hL k => ?_)
  refine lv_land hx hb d ?_
  rw [hz]
  exact k L hL
theorem r_lor {a b z : Int} (hz : Int64.ofInt a ||| Int64.ofInt b = Int64.ofInt z) (hat : At Y pc (.lor) 1 pc') (kk : AW K Y h Q pc' ls (vl z :: st) N g) : AW K Y h Q pc ls (vl b :: vl a :: st) N g := by
  obtain ⟨d, rfl⟩ := hat
  refine AW.pure kk (fun h1 h2 => ⟨h1, oks_cons trivial (oks_tl (oks_tl h2))⟩) (fun p l e R s m args below meth c H locs cells slots Qs ad L hx hb _ _ hL k => ?_)
  refine lv_lor hx hb d ?_
  rw [hz]
  exact k L hL
theorem r_lxor {a b z : Int} (hz : Int64.ofInt a ^^^ Int64.ofInt b = Int64.ofInt z) (hat : At Y pc (.lxor) 1 pc') (kk : AW K Y h Q pc' ls (vl z :: st) N g) : AW K Y h Q pc ls (vl b :: vl a :: st) N g := by
  obtain ⟨d, rfl⟩ := hat
  refine AW.pure kk (fun h1 h2 => ⟨h1, oks_cons trivial (oks_tl (oks_tl h2))⟩) (fun p l e R s m args below meth c H locs cells slots Qs ad L hx hb _ _ hL k => ?_)
  refine lv_lxor hx hb d ?_
  rw [hz]
  exact k L hL
theorem r_ishl {a b z : Int} (hz : Int32.ofInt a <<< (Int32.ofInt b &&& 31) = Int32.ofInt z) (hat : At Y pc (.ishl) 1 pc') (kk : AW K Y h Q pc' ls (vi z :: st) N g) : AW K Y h Q pc ls (vi b :: vi a :: st) N g := by
  obtain ⟨d, rfl⟩ := hat
  refine AW.pure kk (fun h1 h2 => ⟨h1, oks_cons trivial (oks_tl (oks_tl h2))⟩) (fun p l e R s m args below meth c H locs cells slots Qs ad L hx hb _ _ hL k => ?_)
  refine lv_ishl hx hb d ?_
  rw [hz]
  exact k L hL
theorem r_ishr {a b z : Int} (hz : Int32.ofInt a >>> (Int32.ofInt b &&& 31) = Int32.ofInt z) (hat : At Y pc (.ishr) 1 pc') (kk : AW K Y h Q pc' ls (vi z :: st) N g) : AW K Y h Q pc ls (vi b :: vi a :: st) N g := by
  obtain ⟨d, rfl⟩ := hat
  refine AW.pure kk (fun h1 h2 => ⟨h1, oks_cons trivial (oks_tl (oks_tl h2))⟩) (fun p l e R s m args below meth c H locs cells slots Qs ad L hx hb _ _ hL k => ?_)
  refine lv_ishr hx hb d ?_
  rw [hz]
  exact k L hL
theorem r_lshl {a b z : Int} (hz : Int64.ofInt a <<< ((Int32.ofInt b).toInt64 &&& 63) = Int64.ofInt z) (hat : At Y pc (.lshl) 1 pc') (kk : AW K Y h Q pc' ls (vl z :: st) N g) : AW K Y h Q pc ls (vi b :: vl a :: st) N g := by
  obtain ⟨d, rfl⟩ := hat
  refine AW.pure kk (fun h1 h2 => ⟨h1, oks_cons trivial (oks_tl (oks_tl h2))⟩) (fun p l e R s m args below meth c H locs cells slots Qs ad L hx hb _ _ hL k => ?_)
  exact lv_lshl hx hb d hz (k L hL)
theorem r_dup {a : AV} (hca : cat a = 1) (hat : At Y pc (.dup) 1 pc') (kk : AW K Y h Q pc' ls (a :: a :: st) N g) : AW K Y h Q pc ls (a :: st) N g := by
  obtain ⟨d, rfl⟩ := hat
  refine AW.pure kk (fun h1 h2 => ⟨h1, oks_cons (oks_hd h2) h2⟩) (fun p l e R s m args below meth c H locs cells slots Qs ad L hx hb _ _ hL k => ?_)
  exact lv_dup hx hb d ((cv_cat ad a).trans hca) (k L hL)
theorem r_pop {a : AV} (hca : cat a = 1) (hat : At Y pc (.pop) 1 pc') (kk : AW K Y h Q pc' ls (st) N g) : AW K Y h Q pc ls (a :: st) N g := by
  obtain ⟨d, rfl⟩ := hat
  refine AW.pure kk (fun h1 h2 => ⟨h1, oks_tl h2⟩) (fun p l e R s m args below meth c H locs cells slots Qs ad L hx hb _ _ hL k => ?_)
  exact lv_pop hx hb d ((cv_cat ad a).trans hca) (k L hL)
theorem r_pop2l {a : AV} (hca : cat a = 2) (hat : At Y pc (.pop2) 1 pc') (kk : AW K Y h Q pc' ls (st) N g) : AW K Y h Q pc ls (a :: st) N g := by
  obtain ⟨d, rfl⟩ := hat
  refine AW.pure kk (fun h1 h2 => ⟨h1, oks_tl h2⟩) (fun p l e R s m args below meth c H locs cells slots Qs ad L hx hb _ _ hL k => ?_)
  exact lv_pop2_2 hx hb d ((cv_cat ad a).trans hca) (k L hL)
theorem r_dup2l {a : AV} (hca : cat a = 2) (hat : At Y pc (.dup2) 1 pc') (kk : AW K Y h Q pc' ls (a :: a :: st) N g) : AW K Y h Q pc ls (a :: st) N g := by
  obtain ⟨d, rfl⟩ := hat
  refine AW.pure kk (fun h1 h2 => ⟨h1, oks_cons (oks_hd h2) h2⟩) (fun p l e R s m args below meth c H locs cells slots Qs ad L hx hb _ _ hL k => ?_)
  exact lv_dup2_2 hx hb d ((cv_cat ad a).trans hca) (k L hL)
theorem r_dup2 {a b : AV} (hca : cat a = 1) (hcb : cat b = 1) (hat : At Y pc (.dup2) 1 pc') (kk : AW K Y h Q pc' ls (a :: b :: a :: b :: st) N g) : AW K Y h Q pc ls (a :: b :: st) N g := by
  obtain ⟨d, rfl⟩ := hat
  refine AW.pure kk (fun h1 h2 => ⟨h1, oks_cons (oks_hd h2) (oks_cons (oks_hd (oks_tl h2)) h2)⟩) (fun p l e R s m args below meth c H locs cells slots Qs ad L hx hb _ _ hL k => ?_)
  exact lv_dup2_11 hx hb d ((cv_cat ad a).trans hca) ((cv_cat ad b).trans hcb) (k L hL)
theorem r_icmpeq {a b : Int} (hat : AtJ Y pc (.if_icmp .eq) pc' tg) (ha : rI a) (hb : rI b) (k1 : a = b → AW K Y h Q tg ls st N g) (k2 : a ≠ b → AW K Y h Q pc' ls st N g) : AW K Y h Q pc ls (vi b :: vi a :: st) N g := by
  obtain ⟨off, d, rfl, ht⟩ := hat
  intro p e R s m args below meth c ad0 g0 C H locs cells slots ad L hP hL hl hs
  refine lv_icmp_eq C.1 C.2.1 d ht (fun q => ?_) (fun q => ?_)
  · exact k1 ((eqI ha hb).mp q) p e R s m args below meth c ad0 g0 C H locs cells slots ad L hP hL hl (oks_tl (oks_tl hs))
  · exact k2 (fun z => q ((eqI ha hb).mpr z)) p e R s m args below meth c ad0 g0 C H locs cells slots ad L hP hL hl (oks_tl (oks_tl hs))
theorem r_icmpne {a b : Int} (hat : AtJ Y pc (.if_icmp .ne) pc' tg) (ha : rI a) (hb : rI b) (k1 : a ≠ b → AW K Y h Q tg ls st N g) (k2 : a = b → AW K Y h Q pc' ls st N g) : AW K Y h Q pc ls (vi b :: vi a :: st) N g := by
  obtain ⟨off, d, rfl, ht⟩ := hat
  intro p e R s m args below meth c ad0 g0 C H locs cells slots ad L hP hL hl hs
  refine lv_icmp_ne C.1 C.2.1 d ht (fun q => ?_) (fun q => ?_)
  · exact k1 (fun z => q ((eqI ha hb).mpr z)) p e R s m args below meth c ad0 g0 C H locs cells slots ad L hP hL hl (oks_tl (oks_tl hs))
  · exact k2 ((eqI ha hb).mp q) p e R s m args below meth c ad0 g0 C H locs cells slots ad L hP hL hl (oks_tl (oks_tl hs))
theorem r_icmplt {a b : Int} (hat : AtJ Y pc (.if_icmp .lt) pc' tg) (ha : rI a) (hb : rI b) (k1 : a < b → AW K Y h Q tg ls st N g) (k2 : b ≤ a → AW K Y h Q pc' ls st N g) : AW K Y h Q pc ls (vi b :: vi a :: st) N g := by
  obtain ⟨off, d, rfl, ht⟩ := hat
  intro p e R s m args below meth c ad0 g0 C H locs cells slots ad L hP hL hl hs
  refine lv_icmp_lt C.1 C.2.1 d ht (fun q => ?_) (fun q => ?_)
  · exact k1 ((ltI ha hb).mp q) p e R s m args below meth c ad0 g0 C H locs cells slots ad L hP hL hl (oks_tl (oks_tl hs))
  · exact k2 (Int.not_lt.mp (fun z => q ((ltI ha hb).mpr z))) p e R s m args below meth c ad0 g0 C H locs cells slots ad L hP hL hl (oks_tl (oks_tl hs))
theorem r_icmpge {a b : Int} (hat : AtJ Y pc (.if_icmp .ge) pc' tg) (ha : rI a) (hb : rI b) (k1 : b ≤ a → AW K Y h Q tg ls st N g) (k2 : a < b → AW K Y h Q pc' ls st N g) : AW K Y h Q pc ls (vi b :: vi a :: st) N g := by
  obtain ⟨off, d, rfl, ht⟩ := hat
  intro p e R s m args below meth c ad0 g0 C H locs cells slots ad L hP hL hl hs
  refine lv_icmp_ge C.1 C.2.1 d ht (fun q => ?_) (fun q => ?_)
  · exact k1 ((leI hb ha).mp q) p e R s m args below meth c ad0 g0 C H locs cells slots ad L hP hL hl (oks_tl (oks_tl hs))
  · exact k2 (Int.not_le.mp (fun z => q ((leI hb ha).mpr z))) p e R s m args below meth c ad0 g0 C H locs cells slots ad L hP hL hl (oks_tl (oks_tl hs))
theorem r_icmpgt {a b : Int} (hat : AtJ Y pc (.if_icmp .gt) pc' tg) (ha : rI a) (hb : rI b) (k1 : b < a → AW K Y h Q tg ls st N g) (k2 : a ≤ b → AW K Y h Q pc' ls st N g) : AW K Y h Q pc ls (vi b :: vi a :: st) N g := by
  obtain ⟨off, d, rfl, ht⟩ := hat
  intro p e R s m args below meth c ad0 g0 C H locs cells slots ad L hP hL hl hs
  refine lv_icmp_gt C.1 C.2.1 d ht (fun q => ?_) (fun q => ?_)
  · exact k1 ((ltI hb ha).mp q) p e R s m args below meth c ad0 g0 C H locs cells slots ad L hP hL hl (oks_tl (oks_tl hs))
  · exact k2 (Int.not_lt.mp (fun z => q ((ltI hb ha).mpr z))) p e R s m args below meth c ad0 g0 C H locs cells slots ad L hP hL hl (oks_tl (oks_tl hs))
theorem r_icmple {a b : Int} (hat : AtJ Y pc (.if_icmp .le) pc' tg) (ha : rI a) (hb : rI b) (k1 : a ≤ b → AW K Y h Q tg ls st N g) (k2 : b < a → AW K Y h Q pc' ls st N g) : AW K Y h Q pc ls (vi b :: vi a :: st) N g := by
  obtain ⟨off, d, rfl, ht⟩ := hat
  intro p e R s m args below meth c ad0 g0 C H locs cells slots ad L hP hL hl hs
  refine lv_icmp_le C.1 C.2.1 d ht (fun q => ?_) (fun q => ?_)
  · exact k1 ((leI ha hb).mp q) p e R s m args below meth c ad0 g0 C H locs cells slots ad L hP hL hl (oks_tl (oks_tl hs))
  · exact k2 (Int.not_le.mp (fun z => q ((leI ha hb).mpr z))) p e R s m args below meth c ad0 g0 C H locs cells slots ad L hP hL hl (oks_tl (oks_tl hs))
theorem r_ifeq {a : Int} (hat : AtJ Y pc (.ifCond .eq) pc' tg) (ha : rI a) (k1 : a = 0 → AW K Y h Q tg ls st N g) (k2 : a ≠ 0 → AW K Y h Q pc' ls st N g) : AW K Y h Q pc ls (vi a :: st) N g := by
  obtain ⟨off, d, rfl, ht⟩ := hat
  intro p e R s m args below meth c ad0 g0 C H locs cells slots ad L hP hL hl hs
  refine lv_if_eq C.1 C.2.1 d ht (fun q => ?_) (fun q => ?_)
  · exact k1 ((eqI ha rI0).mp q) p e R s m args below meth c ad0 g0 C H locs cells slots ad L hP hL hl (oks_tl hs)
  · exact k2 (fun z => q ((eqI ha rI0).mpr z)) p e R s m args below meth c ad0 g0 C H locs cells slots ad L hP hL hl (oks_tl hs)
theorem r_ifne {a : Int} (hat : AtJ Y pc (.ifCond .ne) pc' tg) (ha : rI a) (k1 : a ≠ 0 → AW K Y h Q tg ls st N g) (k2 : a = 0 → AW K Y h Q pc' ls st N g) : AW K Y h Q pc ls (vi a :: st) N g := by
  obtain ⟨off, d, rfl, ht⟩ := hat
  intro p e R s m args below meth c ad0 g0 C H locs cells slots ad L hP hL hl hs
  refine lv_if_ne C.1 C.2.1 d ht (fun q => ?_) (fun q => ?_)
  · exact k1 (fun z => q ((eqI ha rI0).mpr z)) p e R s m args below meth c ad0 g0 C H locs cells slots ad L hP hL hl (oks_tl hs)
  · exact k2 ((eqI ha rI0).mp q) p e R s m args below meth c ad0 g0 C H locs cells slots ad L hP hL hl (oks_tl hs)
theorem r_iflt {a : Int} (hat : AtJ Y pc (.ifCond .lt) pc' tg) (ha : rI a) (k1 : a < 0 → AW K Y h Q tg ls st N g) (k2 : 0 ≤ a → AW K Y h Q pc' ls st N g) : AW K Y h Q pc ls (vi a :: st) N g := by
  obtain ⟨off, d, rfl, ht⟩ := hat
  intro p e R s m args below meth c ad0 g0 C H locs cells slots ad L hP hL hl hs
  refine lv_if_lt C.1 C.2.1 d ht (fun q => ?_) (fun q => ?_)
  · exact k1 ((ltI ha rI0).mp q) p e R s m args below meth c ad0 g0 C H locs cells slots ad L hP hL hl (oks_tl hs)
  · exact k2 (Int.not_lt.mp (fun z => q ((ltI ha rI0).mpr z))) p e R s m args below meth c ad0 g0 C H locs cells slots ad L hP hL hl (oks_tl hs)
theorem r_ifge {a : Int} (hat : AtJ Y pc (.ifCond .ge) pc' tg) (ha : rI a) (k1 : 0 ≤ a → AW K Y h Q tg ls st N g) (k2 : a < 0 → AW K Y h Q pc' ls st N g) : AW K Y h Q pc ls (vi a :: st) N g := by
  obtain ⟨off, d, rfl, ht⟩ := hat
  intro p e R s m args below meth c ad0 g0 C H locs cells slots ad L hP hL hl hs
  refine lv_if_ge C.1 C.2.1 d ht (fun q => ?_) (fun q => ?_)
  · exact k1 ((leI rI0 ha).mp q) p e R s m args below meth c ad0 g0 C H locs cells slots ad L hP hL hl (oks_tl hs)
  · exact k2 (Int.not_le.mp (fun z => q ((leI rI0 ha).mpr z))) p e R s m args below meth c ad0 g0 C H locs cells slots ad L hP hL hl (oks_tl hs)
theorem r_ifgt {a : Int} (hat : AtJ Y pc (.ifCond .gt) pc' tg) (ha : rI a) (k1 : 0 < a → AW K Y h Q tg ls st N g) (k2 : a ≤ 0 → AW K Y h Q pc' ls st N g) : AW K Y h Q pc ls (vi a :: st) N g := by
  obtain ⟨off, d, rfl, ht⟩ := hat
  intro p e R s m args below meth c ad0 g0 C H locs cells slots ad L hP hL hl hs
  refine lv_if_gt C.1 C.2.1 d ht (fun q => ?_) (fun q => ?_)
  · exact k1 ((ltI rI0 ha).mp q) p e R s m args below meth c ad0 g0 C H locs cells slots ad L hP hL hl (oks_tl hs)
  · exact k2 (Int.not_lt.mp (fun z => q ((ltI rI0 ha).mpr z))) p e R s m args below meth c ad0 g0 C H locs cells slots ad L hP hL hl (oks_tl hs)
theorem r_ifle {a : Int} (hat : AtJ Y pc (.ifCond .le) pc' tg) (ha : rI a) (k1 : a ≤ 0 → AW K Y h Q tg ls st N g) (k2 : 0 < a → AW K Y h Q pc' ls st N g) : AW K Y h Q pc ls (vi a :: st) N g := by
  obtain ⟨off, d, rfl, ht⟩ := hat
  intro p e R s m args below meth c ad0 g0 C H locs cells slots ad L hP hL hl hs
  refine lv_if_le C.1 C.2.1 d ht (fun q => ?_) (fun q => ?_)
  · exact k1 ((leI ha rI0).mp q) p e R s m args below meth c ad0 g0 C H locs cells slots ad L hP hL hl (oks_tl hs)
  · exact k2 (Int.not_le.mp (fun z => q ((leI ha rI0).mpr z))) p e R s m args below meth c ad0 g0 C H locs cells slots ad L hP hL hl (oks_tl hs)
theorem r_goto (hat : AtJ Y pc .goto pc' tg) (kk : AW K Y h Q tg ls st N g) : AW K Y h Q pc ls st N g := by
  obtain ⟨off, d, rfl, ht⟩ := hat
  exact AW.pure kk (fun h1 h2 => ⟨h1, h2⟩) (fun p l e R s m args below meth c H locs cells slots Qs ad L hx hb _ _ hL k => lv_goto hx hb d ht (k L hL))
theorem lgc {a b : Int} (ha : rL a) (hb : rL b) : lg_cmp (Int64.ofInt a) (Int64.ofInt b) = Int32.ofInt (if b < a then 1 else if a = b then 0 else -1) := by
  unfold lg_cmp
  by_cases h1 : b < a
  · rw [if_pos ((ltL hb ha).mpr h1), if_pos h1]; rfl
  · rw [if_neg (fun z => h1 ((ltL hb ha).mp z)), if_neg h1]
    by_cases h2 : a = b
    · rw [if_pos ((eqL ha hb).mpr h2), if_pos h2]; rfl
    · rw [if_neg (fun z => h2 ((eqL ha hb).mp z)), if_neg h2]; rfl
theorem r_lcmp {a b : Int} (hra : rL a) (hrb : rL b) (hat : At Y pc .lcmp 1 pc') (kk : AW K Y h Q pc' ls (vi (if b < a then 1 else if a = b then 0 else -1) :: st) N g) : AW K Y h Q pc ls (vl b :: vl a :: st) N g := by
  obtain ⟨d, rfl⟩ := hat
  refine AW.pure kk (fun h1 h2 => ⟨h1, oks_cons trivial (oks_tl (oks_tl h2))⟩) (fun p l e R s m args below meth c H locs cells slots Qs ad L hx hb _ _ hL k => ?_)
  refine W.lcmp hx hb d ?_
  rw [lgc hra hrb]
  exact k L hL
theorem rIc (a b : Int) : rI (if b < a then 1 else if a = b then 0 else -1) := by
  unfold rI
  split
  · omega
  · split <;> omega
theorem r_lceq {a b : Int} (hat : At Y pc .lcmp 1 pc1) (haj : AtJ Y pc1 (.ifCond .eq) pc' tg) (ha : rL a) (hb : rL b) (k1 : a = b → AW K Y h Q tg ls st N g) (k2 : a ≠ b → AW K Y h Q pc' ls st N g) : AW K Y h Q pc ls (vl b :: vl a :: st) N g := by
  refine r_lcmp ha hb hat (r_ifeq haj (rIc a b) (fun q => k1 ?_) (fun q => k2 ?_))
  · revert q; split
    · omega
    · split <;> omega
  · revert q; split
    · omega
    · split <;> omega
theorem r_lcne {a b : Int} (hat : At Y pc .lcmp 1 pc1) (haj : AtJ Y pc1 (.ifCond .ne) pc' tg) (ha : rL a) (hb : rL b) (k1 : a ≠ b → AW K Y h Q tg ls st N g) (k2 : a = b → AW K Y h Q pc' ls st N g) : AW K Y h Q pc ls (vl b :: vl a :: st) N g := by
  refine r_lcmp ha hb hat (r_ifne haj (rIc a b) (fun q => k1 ?_) (fun q => k2 ?_))
  · revert q; split
    · omega
    · split <;> omega
  · revert q; split
    · omega
    · split <;> omega
theorem r_lclt {a b : Int} (hat : At Y pc .lcmp 1 pc1) (haj : AtJ Y pc1 (.ifCond .lt) pc' tg) (ha : rL a) (hb : rL b) (k1 : a < b → AW K Y h Q tg ls st N g) (k2 : b ≤ a → AW K Y h Q pc' ls st N g) : AW K Y h Q pc ls (vl b :: vl a :: st) N g := by
  refine r_lcmp ha hb hat (r_iflt haj (rIc a b) (fun q => k1 ?_) (fun q => k2 ?_))
  · revert q; split
    · omega
    · split <;> omega
  · revert q; split
    · omega
    · split <;> omega
theorem r_lcge {a b : Int} (hat : At Y pc .lcmp 1 pc1) (haj : AtJ Y pc1 (.ifCond .ge) pc' tg) (ha : rL a) (hb : rL b) (k1 : b ≤ a → AW K Y h Q tg ls st N g) (k2 : a < b → AW K Y h Q pc' ls st N g) : AW K Y h Q pc ls (vl b :: vl a :: st) N g := by
  refine r_lcmp ha hb hat (r_ifge haj (rIc a b) (fun q => k1 ?_) (fun q => k2 ?_))
  · revert q; split
    · omega
    · split <;> omega
  · revert q; split
    · omega
    · split <;> omega
theorem r_lcgt {a b : Int} (hat : At Y pc .lcmp 1 pc1) (haj : AtJ Y pc1 (.ifCond .gt) pc' tg) (ha : rL a) (hb : rL b) (k1 : b < a → AW K Y h Q tg ls st N g) (k2 : a ≤ b → AW K Y h Q pc' ls st N g) : AW K Y h Q pc ls (vl b :: vl a :: st) N g := by
  refine r_lcmp ha hb hat (r_ifgt haj (rIc a b) (fun q => k1 ?_) (fun q => k2 ?_))
  · revert q; split
    · omega
    · split <;> omega
  · revert q; split
    · omega
    · split <;> omega
theorem r_lcle {a b : Int} (hat : At Y pc .lcmp 1 pc1) (haj : AtJ Y pc1 (.ifCond .le) pc' tg) (ha : rL a) (hb : rL b) (k1 : a ≤ b → AW K Y h Q tg ls st N g) (k2 : b < a → AW K Y h Q pc' ls st N g) : AW K Y h Q pc ls (vl b :: vl a :: st) N g := by
  refine r_lcmp ha hb hat (r_ifle haj (rIc a b) (fun q => k1 ?_) (fun q => k2 ?_))
  · revert q; split
    · omega
    · split <;> omega
  · revert q; split
    · omega
    · split <;> omega
end Rows2
