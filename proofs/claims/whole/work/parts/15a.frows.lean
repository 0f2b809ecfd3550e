/-! own text: rows of floats and doubles -/
def ordI (o : Ordering) : Int := match o with
  | .lt => -1
  | .eq => 0
  | .gt => 1
theorem kMraw64 : Cond.methodLink "java/lang/Double" 134 ⟨"java/lang/Double", "doubleToRawLongBits", "(D)J"⟩ ∈ TW := tw_t 1376 (by decide +kernel) (by decide +kernel)
theorem kSraw64 : Cond.static ⟨"java/lang/Double", "doubleToRawLongBits", "(D)J"⟩ ∈ TW := tw_t 1377 (by decide +kernel) (by decide +kernel)
theorem kNraw64 : Cond.native ⟨"java/lang/Double", "doubleToRawLongBits", "(D)J"⟩ ∈ TW := tw_t 1378 (by decide +kernel) (by decide +kernel)
theorem kIraw64 : Cond.initialized "java/lang/Double" ∈ TW := tw_t 20 (by decide +kernel) (by decide +kernel)
theorem kMraw32 : Cond.methodLink "java/lang/Float" 74 ⟨"java/lang/Float", "floatToRawIntBits", "(F)I"⟩ ∈ TW := tw_t 1391 (by decide +kernel) (by decide +kernel)
theorem kSraw32 : Cond.static ⟨"java/lang/Float", "floatToRawIntBits", "(F)I"⟩ ∈ TW := tw_t 1392 (by decide +kernel) (by decide +kernel)
theorem kNraw32 : Cond.native ⟨"java/lang/Float", "floatToRawIntBits", "(F)I"⟩ ∈ TW := tw_t 1393 (by decide +kernel) (by decide +kernel)
theorem kIraw32 : Cond.initialized "java/lang/Float" ∈ TW := tw_t 21 (by decide +kernel) (by decide +kernel)
section FRows
variable {K : Kx} {Y : Ys} {h : Nat} {Q : Qt} {pc pc' : Nat} {ls : List (Option AV)} {st : List AV} {N : Nm} {g : Ge}
theorem r_dconst0 (hat : At Y pc (.dconst 0) 1 pc') (kk : AW K Y h Q pc' ls (vd FP.dconst0 :: st) N g) : AW K Y h Q pc ls st N g := by
  obtain ⟨d, rfl⟩ := hat
  exact AW.pure kk (fun h1 h2 => ⟨h1, oks_cons trivial h2⟩) (fun p l e R s m args below meth c H locs cells slots Qs ad L hx hb _ _ hL k => lv_dconst0 hx hb d (k L hL))
theorem r_dconst1 (hat : At Y pc (.dconst 1) 1 pc') (kk : AW K Y h Q pc' ls (vd FP.dconst1 :: st) N g) : AW K Y h Q pc ls st N g := by
  obtain ⟨d, rfl⟩ := hat
  exact AW.pure kk (fun h1 h2 => ⟨h1, oks_cons trivial h2⟩) (fun p l e R s m args below meth c H locs cells slots Qs ad L hx hb _ _ hL k => lv_dconst1 hx hb d (k L hL))
theorem r_fconst0 (hat : At Y pc (.fconst 0) 1 pc') (kk : AW K Y h Q pc' ls (vf FP.fconst0 :: st) N g) : AW K Y h Q pc ls st N g := by
  obtain ⟨d, rfl⟩ := hat
  exact AW.pure kk (fun h1 h2 => ⟨h1, oks_cons trivial h2⟩) (fun p l e R s m args below meth c H locs cells slots Qs ad L hx hb _ _ hL k => lv_fconst0 hx hb d (k L hL))
theorem r_l2d {z : Int} (hat : At Y pc .l2d 1 pc') (kk : AW K Y h Q pc' ls (vd (FP.l2d (Int64.ofInt z)) :: st) N g) : AW K Y h Q pc ls (vl z :: st) N g := by
  obtain ⟨d, rfl⟩ := hat
  exact AW.pure kk (fun h1 h2 => ⟨h1, oks_cons trivial (oks_tl h2)⟩) (fun p l e R s m args below meth c H locs cells slots Qs ad L hx hb _ _ hL k => lv_l2d hx hb d (k L hL))
theorem r_l2f {z : Int} (hat : At Y pc .l2f 1 pc') (kk : AW K Y h Q pc' ls (vf (FP.l2f (Int64.ofInt z)) :: st) N g) : AW K Y h Q pc ls (vl z :: st) N g := by
  obtain ⟨d, rfl⟩ := hat
  exact AW.pure kk (fun h1 h2 => ⟨h1, oks_cons trivial (oks_tl h2)⟩) (fun p l e R s m args below meth c H locs cells slots Qs ad L hx hb _ _ hL k => lv_l2f hx hb d (k L hL))
theorem r_ddiv {x y z : UInt64} (hz : FP.ddiv x y = z) (hn : vf_n64 z) (hat : At Y pc .ddiv 1 pc') (kk : AW K Y h Q pc' ls (vd z :: st) N g) : AW K Y h Q pc ls (vd y :: vd x :: st) N g := by
  obtain ⟨d, rfl⟩ := hat
  subst hz
  exact AW.pure kk (fun h1 h2 => ⟨h1, oks_cons trivial (oks_tl (oks_tl h2))⟩) (fun p l e R s m args below meth c H locs cells slots Qs ad L hx hb _ _ hL k => lv_ddiv hx hb d hn (k L hL))
theorem r_dmul {x y z : UInt64} (hz : FP.dmul x y = z) (hn : vf_n64 z) (hat : At Y pc .dmul 1 pc') (kk : AW K Y h Q pc' ls (vd z :: st) N g) : AW K Y h Q pc ls (vd y :: vd x :: st) N g := by
  obtain ⟨d, rfl⟩ := hat
  subst hz
  exact AW.pure kk (fun h1 h2 => ⟨h1, oks_cons trivial (oks_tl (oks_tl h2))⟩) (fun p l e R s m args below meth c H locs cells slots Qs ad L hx hb _ _ hL k => lv_dmul hx hb d hn (k L hL))
theorem r_dsub {x y z : UInt64} (hz : FP.dsub x y = z) (hn : vf_n64 z) (hat : At Y pc .dsub 1 pc') (kk : AW K Y h Q pc' ls (vd z :: st) N g) : AW K Y h Q pc ls (vd y :: vd x :: st) N g := by
  obtain ⟨d, rfl⟩ := hat
  subst hz
  exact AW.pure kk (fun h1 h2 => ⟨h1, oks_cons trivial (oks_tl (oks_tl h2))⟩) (fun p l e R s m args below meth c H locs cells slots Qs ad L hx hb _ _ hL k => lv_dsub hx hb d hn (k L hL))
theorem r_fdiv {x y z : UInt32} (hz : FP.fdiv x y = z) (hn : vf_n32 z) (hat : At Y pc .fdiv 1 pc') (kk : AW K Y h Q pc' ls (vf z :: st) N g) : AW K Y h Q pc ls (vf y :: vf x :: st) N g := by
  obtain ⟨d, rfl⟩ := hat
  subst hz
  exact AW.pure kk (fun h1 h2 => ⟨h1, oks_cons trivial (oks_tl (oks_tl h2))⟩) (fun p l e R s m args below meth c H locs cells slots Qs ad L hx hb _ _ hL k => lv_fdiv hx hb d hn (k L hL))
theorem r_dneg {x : UInt64} (hat : At Y pc .dneg 1 pc') (kk : AW K Y h Q pc' ls (vd (FP.dneg x) :: st) N g) : AW K Y h Q pc ls (vd x :: st) N g := by
  obtain ⟨d, rfl⟩ := hat
  exact AW.pure kk (fun h1 h2 => ⟨h1, oks_cons trivial (oks_tl h2)⟩) (fun p l e R s m args below meth c H locs cells slots Qs ad L hx hb _ _ hL k => lv_dneg hx hb d (k L hL))
theorem r_fneg {x : UInt32} (hat : At Y pc .fneg 1 pc') (kk : AW K Y h Q pc' ls (vf (FP.fneg x) :: st) N g) : AW K Y h Q pc ls (vf x :: st) N g := by
  obtain ⟨d, rfl⟩ := hat
  exact AW.pure kk (fun h1 h2 => ⟨h1, oks_cons trivial (oks_tl h2)⟩) (fun p l e R s m args below meth c H locs cells slots Qs ad L hx hb _ _ hL k => lv_fneg hx hb d (k L hL))
theorem r_d2l {x : UInt64} {z : Int} (hz : FP.d2l x = Int64.ofInt z) (hat : At Y pc .d2l 1 pc') (kk : AW K Y h Q pc' ls (vl z :: st) N g) : AW K Y h Q pc ls (vd x :: st) N g := by
  obtain ⟨d, rfl⟩ := hat
  refine AW.pure kk (fun h1 h2 => ⟨h1, oks_cons trivial (oks_tl h2)⟩) (fun p l e R s m args below meth c H locs cells slots Qs ad L hx hb _ _ hL k => lv_d2l hx hb d ?_)
  rw [hz]; exact k L hL
theorem r_d2i {x : UInt64} {z : Int} (hz : FP.d2i x = Int32.ofInt z) (hat : At Y pc .d2i 1 pc') (kk : AW K Y h Q pc' ls (vi z :: st) N g) : AW K Y h Q pc ls (vd x :: st) N g := by
  obtain ⟨d, rfl⟩ := hat
  refine AW.pure kk (fun h1 h2 => ⟨h1, oks_cons trivial (oks_tl h2)⟩) (fun p l e R s m args below meth c H locs cells slots Qs ad L hx hb _ _ hL k => lv_d2i hx hb d ?_)
  rw [hz]; exact k L hL
theorem r_f2d {x : UInt32} {z : UInt64} (hz : FP.f2d x = z) (hn : vf_n64 z) (hat : At Y pc .f2d 1 pc') (kk : AW K Y h Q pc' ls (vd z :: st) N g) : AW K Y h Q pc ls (vf x :: st) N g := by
  obtain ⟨d, rfl⟩ := hat
  subst hz
  exact AW.pure kk (fun h1 h2 => ⟨h1, oks_cons trivial (oks_tl h2)⟩) (fun p l e R s m args below meth c H locs cells slots Qs ad L hx hb _ _ hL k => lv_f2d hx hb d hn (k L hL))
theorem r_dcmp {x y : UInt64} {op : CmpOp} {o : Ordering} (ho : FP.dcmp x y = some o) (hat : At Y pc (.dcmp op) 1 pc') (kk : AW K Y h Q pc' ls (vi (ordI o) :: st) N g) : AW K Y h Q pc ls (vd y :: vd x :: st) N g := by
  obtain ⟨d, rfl⟩ := hat
  refine AW.pure kk (fun h1 h2 => ⟨h1, oks_cons trivial (oks_tl (oks_tl h2))⟩) (fun p l e R s m args below meth c H locs cells slots Qs ad L hx hb _ _ hL k => lv_dcmp hx hb d ?_)
  rw [ho, show Op.cmpValue (some o) op = Int32.ofInt (ordI o) by cases o <;> rfl]
  exact k L hL
/-- a NaN against itself -/
theorem r_dcmpN {x y : UInt64} (ho : FP.dcmp x y = none) (hat : At Y pc (.dcmp .l) 1 pc') (kk : AW K Y h Q pc' ls (vi (-1) :: st) N g) : AW K Y h Q pc ls (vd y :: vd x :: st) N g := by
  obtain ⟨d, rfl⟩ := hat
  refine AW.pure kk (fun h1 h2 => ⟨h1, oks_cons trivial (oks_tl (oks_tl h2))⟩) (fun p l e R s m args below meth c H locs cells slots Qs ad L hx hb _ _ hL k => lv_dcmp hx hb d ?_)
  rw [ho]
  exact k L hL
theorem r_fcmp {x y : UInt32} {op : CmpOp} {o : Ordering} (ho : FP.fcmp x y = some o) (hat : At Y pc (.fcmp op) 1 pc') (kk : AW K Y h Q pc' ls (vi (ordI o) :: st) N g) : AW K Y h Q pc ls (vf y :: vf x :: st) N g := by
  obtain ⟨d, rfl⟩ := hat
  refine AW.pure kk (fun h1 h2 => ⟨h1, oks_cons trivial (oks_tl (oks_tl h2))⟩) (fun p l e R s m args below meth c H locs cells slots Qs ad L hx hb _ _ hL k => lv_fcmp hx hb d ?_)
  rw [ho, show Op.cmpValue (some o) op = Int32.ofInt (ordI o) by cases o <;> rfl]
  exact k L hL
/-- a quotient that may be a NaN: its bits are drawn -/
theorem r_ddivD {x y : UInt64} (hat : At Y pc .ddiv 1 pc') (kk : ∀ r, alike64 r (FP.ddiv x y) = true → AW K Y h Q pc' ls (vd r :: st) N g) : AW K Y h Q pc ls (vd y :: vd x :: st) N g := by
  obtain ⟨d, rfl⟩ := hat
  intro p e R s m args below meth c ad0 g0 C H locs cells slots ad L hP hL hl hs
  refine W.base (lv_ddiv_any (Drawn.sameBut.refl s.drawn lw_cs) lw_bits C.1 C.2.1 d (fun r d1 hal hd1 => ?_))
  intro T hT X
  obtain ⟨t, a1, b1⟩ := kk r hal p e R (s.setDrawn d1) m args below meth c ad0 g0 (C.drew d1) H locs cells slots ad L hP hL hl (oks_cons trivial (oks_tl (oks_tl hs))) T hT X
  exact ⟨t, a1, RQ.drew hd1 b1⟩
theorem ldcwF {p : Program} {l : Launch} {e : Env} {R : Room} {s : State} {m : MethodId} {args : Array Value} {below : List Frame} {meth : Method} {c : Code} {locs : List Loc} {cells slots : Nat} {T : State} (X : Stand p l e R s m args below meth c T locs cells slots) (hexec : p.tables.exec = Jvm.exec) {own : String} {index : Nat} {v : UInt32} (hown : s.vm.findClass own = some m.cls)
    (hconst : (Cond.constantFloat own index v).before args s = true) {g : JFrame} (hg : g.method = m) (hdg : decode c.code g.pc = .ok (.ldc_w index, 3)) :
    ∀ target, Steps p.tables e below (T.setTop { g with pc := g.pc + 3, stack := .float v :: g.stack }) target → Steps p.tables e below (T.setTop g) target := by
  obtain ⟨k, cf, hk, hcf, hcp⟩ := Cond.constantFloat_spec hown hconst
  obtain ⟨k', hk', he⟩ := X.warmed.alike.2.2 _ _ hk
  intro target hrest
  subst hg
  jvm_step X.here [hexec, hdg, ldc_w.wp_float (s := T) (f := g) X.here.top hk' (by rw [he]; exact hcf) hcp]
  exact hrest
theorem r_ldcwf {idx : Nat} {v : UInt32} (hc : Cond.constantFloat Y.1.cls idx v ∈ TW) (hat : At Y pc (.ldc_w idx) 3 pc') (kk : AW K Y h Q pc' ls (vf v :: st) N g) : AW K Y h Q pc ls st N g := by
  obtain ⟨d, rfl⟩ := hat
  refine AW.pure kk (fun h1 h2 => ⟨h1, oks_cons trivial h2⟩) (fun p l e R s m args below meth c H locs cells slots Qs ad L hx hb ho hts hL k => ?_)
  intro T hT X
  obtain ⟨t, a, b⟩ := k L hL T hT X
  exact ⟨t, ldcwF X hx ho (hts _ hc) (g := F0 m pc L (st.map (cv ad))) rfl (by rw [hb]; exact d) t a, b⟩
theorem cat_sum (ad : Nat → Nat → Nat) (st : List AV) : ((st.map (cv ad)).map (fun v => v.category)).sum = (st.map cat).sum := by
  rw [List.map_map]
  exact congrArg List.sum (List.map_congr_left (fun v _ => cv_cat ad v))
theorem r_raw64 {x : UInt64} (hY : Y.1.cls = "java/lang/Double") (hh : 1 ≤ h) (hcat : (st.map cat).sum ≤ 8) (hat : At Y pc (.invokestatic 134) 3 pc') (kk : AW K Y h Q pc' ls (vl x.toInt64.toInt :: st) N g) : AW K Y h Q pc ls (vd x :: st) N g := by
  obtain ⟨d, rfl⟩ := hat
  intro p e R s m args below meth c ad0 g0 C H locs cells slots ad L hP hL hl hs
  have h8 := C.2.2.2.2.2.2.2.2
  have k := kk p e R s m args below meth c ad0 g0 C H locs cells slots ad L hP hL hl (oks_cons trivial (oks_tl hs))
  have e1 : cv ad (vl x.toInt64.toInt) = .long x.toInt64 := by show Value.long (Int64.ofInt x.toInt64.toInt) = _; rw [Int64.ofInt_toInt]
  rw [List.map_cons, e1] at k
  exact vn_d2l (own := "java/lang/Double") C.1 C.2.1 (C.2.2.1.trans hL.1.symm) (by rw [← hY]; exact C.2.2.2.1) (C.2.2.2.2.1 _ kMraw64) (C.2.2.2.2.1 _ kNraw64) (C.2.2.2.2.1 _ kSraw64) (C.2.2.2.2.1 _ kIraw64) (by omega) (by rw [cat_sum]; omega) d k
theorem r_raw32 {x : UInt32} (hY : Y.1.cls = "java/lang/Float") (hh : 1 ≤ h) (hcat : (st.map cat).sum ≤ 8) (hat : At Y pc (.invokestatic 74) 3 pc') (kk : AW K Y h Q pc' ls (vi x.toInt32.toInt :: st) N g) : AW K Y h Q pc ls (vf x :: st) N g := by
  obtain ⟨d, rfl⟩ := hat
  intro p e R s m args below meth c ad0 g0 C H locs cells slots ad L hP hL hl hs
  have h8 := C.2.2.2.2.2.2.2.2
  have k := kk p e R s m args below meth c ad0 g0 C H locs cells slots ad L hP hL hl (oks_cons trivial (oks_tl hs))
  have e1 : cv ad (vi x.toInt32.toInt) = .int x.toInt32 := by show Value.int (Int32.ofInt x.toInt32.toInt) = _; rw [Int32.ofInt_toInt]
  rw [List.map_cons, e1] at k
  exact vn_f2i (own := "java/lang/Float") C.1 C.2.1 (C.2.2.1.trans hL.1.symm) (by rw [← hY]; exact C.2.2.2.1) (C.2.2.2.2.1 _ kMraw32) (C.2.2.2.2.1 _ kNraw32) (C.2.2.2.2.1 _ kSraw32) (C.2.2.2.2.1 _ kIraw32) (by omega) (by rw [cat_sum]; omega) d k
end FRows
