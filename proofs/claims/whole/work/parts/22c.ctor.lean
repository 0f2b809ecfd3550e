/-! own text: rows of a constructor's walk: the object o that is being made, the cells S behind all that was there; references into S by their places -/
def zl (K : Kx) (D : List Cz) (n : Nat) (v : Vz) : Value := if v.1 = 4 then .ref (K.2.1 + n) else zv K.2.1 (tz D.length v)
abbrev Et (D : List Cz) (n : Nat) (o : Cz) (S : List Cz) : List Cz := D.set n (tc D.length o) ++ S.map (tc D.length)
def CB (K : Kx) (Y : Ys) (h : Nat) (D : List Cz) (n : Nat) (of : Cz) (Sf : List Cz) (mc ms pc : Nat) (lx : List (Nat × Int)) (st : List Vz) (o : Cz) (S : List Cz) (cells slots : Nat) : Prop :=
  ∀ (p : Program) (e : Env) (R : Room) (s : State) (m : MethodId) (args : Array Value) (below : List Frame) (meth : Method) (cd : Code), Cy K Y h p R s m args cd → meth.name = "<init>" → meth.locks = false → meth.sig.returnType = none → mc ≤ R.cells → ms ≤ R.slots → n < D.length →
    ∀ (H : Heap) (locs : List Loc) (L : Array Slot), Ph K s (Et D n o S) H locs → lv_has L Y.2.2.1 ((0, .ref (K.2.1 + n)) :: lx.map (fun q => (q.1, Value.int (Int32.ofInt q.2)))) →
    W p K.1 e R s m args below meth cd H locs cells slots (MQ below (CcPost K D n of Sf) args s mc ms (fun q => K.2.1 ≤ q)) (F0 m pc L (st.map (zl K D n)))
theorem tz_tz (a b : Nat) (v : Vz) : tz a (tz b v) = tz (a + b) v := by
  unfold tz
  by_cases e : v.1 = 2
  · rw [if_pos e]
    show (if (2 : Nat) = 2 then _ else _) = _
    rw [if_pos rfl, if_pos e]
    show ((2, v.2.1, v.2.2 + b + a) : Vz) = (2, v.2.1, v.2.2 + (a + b))
    rw [Nat.add_assoc, Nat.add_comm b a]
  · rw [if_neg e, if_neg e, if_neg e]
theorem tc_tc (a b : Nat) (d : Cz) : tc a (tc b d) = tc (a + b) d := by
  show (d.1, d.2.1, d.2.2.1, (d.2.2.2.map (tz b)).map (tz a)) = (d.1, d.2.1, d.2.2.1, d.2.2.2.map (tz (a + b)))
  rw [List.map_map]
  congr 3
  exact List.map_congr_left (fun v _ => tz_tz a b v)
section Et1
variable {D S : List Cz} {n : Nat} {o : Cz}
theorem et_len : (Et D n o S).length = D.length + S.length := by
  rw [List.length_append, List.length_set, List.length_map]
theorem et_at (hn : n < D.length) : (Et D n o S)[n]? = some (tc D.length o) := by
  rw [List.getElem?_append_left (by rw [List.length_set]; exact hn), List.getElem?_set, if_pos rfl, if_pos hn]
theorem et_in {j : Nat} {d : Cz} (hj : S[j]? = some d) : (Et D n o S)[D.length + j]? = some (tc D.length d) := by
  rw [List.getElem?_append_right (by rw [List.length_set]; omega), List.length_set, show D.length + j - D.length = j by omega, List.getElem?_map, hj]
  rfl
theorem et_seto (hn : n < D.length) (o' : Cz) : (Et D n o S).set n (tc D.length o') = Et D n o' S := by
  show (D.set n (tc D.length o) ++ _).set n _ = _
  rw [List.set_append_left _ _ (by rw [List.length_set]; exact hn), List.set_set]
theorem et_setS (j : Nat) (d : Cz) : (Et D n o S).set (D.length + j) (tc D.length d) = Et D n o (S.set j d) := by
  show (D.set n (tc D.length o) ++ _).set _ _ = _
  rw [List.set_append_right _ _ (by rw [List.length_set]; omega), List.length_set, show D.length + j - D.length = j by omega]
  show _ = D.set n (tc D.length o) ++ (S.set j d).map (tc D.length)
  rw [List.map_set]
theorem et_app (S' : List Cz) : Et D n o S ++ S'.map (tc D.length) = Et D n o (S ++ S') := by
  show (D.set n (tc D.length o) ++ S.map (tc D.length)) ++ _ = D.set n (tc D.length o) ++ (S ++ S').map (tc D.length)
  rw [List.append_assoc, List.map_append]
end Et1
theorem getD_tz (k : Nat) (vs : List Vz) (j : Nat) : (vs.map (tz k)).getD j (3, 0, 0) = tz k (vs.getD j (3, 0, 0)) := by
  rw [List.getD_eq_getElem?_getD, List.getD_eq_getElem?_getD, List.getElem?_map]
  cases vs[j]? <;> rfl
section Rw
variable {K : Kx} {Y Y' : Ys} {h h' : Nat} {D : List Cz} {n : Nat} {of : Cz} {Sf : List Cz} {mc ms pc pc' : Nat} {lx : List (Nat × Int)} {st : List Vz} {o : Cz} {S S' : List Cz} {cells slots : Nat}
theorem b_ld0 (hat : At Y pc (.aload_n 0) 1 pc') (kk : CB K Y h D n of Sf mc ms pc' lx ((4, 0, 0) :: st) o S cells slots) : CB K Y h D n of Sf mc ms pc lx st o S cells slots := by
  obtain ⟨d, rfl⟩ := hat
  intro p e R s m args below meth cd C h1 h2 h3 h4 h5 h6 H locs L hP hL
  exact lv_aload_n C.1 C.2.1 d rfl (lv_at hL 0 rfl) (kk p e R s m args below meth cd C h1 h2 h3 h4 h5 h6 H locs L hP hL)
theorem b_dup {j : Nat} (hat : At Y pc .dup 1 pc') (kk : CB K Y h D n of Sf mc ms pc' lx ((2, 0, j) :: (2, 0, j) :: st) o S cells slots) : CB K Y h D n of Sf mc ms pc lx ((2, 0, j) :: st) o S cells slots := by
  obtain ⟨d, rfl⟩ := hat
  intro p e R s m args below meth cd C h1 h2 h3 h4 h5 h6 H locs L hP hL
  exact lv_dup C.1 C.2.1 d rfl (kk p e R s m args below meth cd C h1 h2 h3 h4 h5 h6 H locs L hP hL)
theorem b_iconst {z : Int} (hat : At Y pc (.iconst z) 1 pc') (kk : CB K Y h D n of Sf mc ms pc' lx ((0, z, 0) :: st) o S cells slots) : CB K Y h D n of Sf mc ms pc lx st o S cells slots := by
  obtain ⟨d, rfl⟩ := hat
  intro p e R s m args below meth cd C h1 h2 h3 h4 h5 h6 H locs L hP hL
  exact lv_iconst C.1 C.2.1 d rfl (kk p e R s m args below meth cd C h1 h2 h3 h4 h5 h6 H locs L hP hL)
theorem b_bipush {z : Int} (hz : (Int8.ofInt z).toInt32 = Int32.ofInt z) (hat : At Y pc (.bipush z) 2 pc') (kk : CB K Y h D n of Sf mc ms pc' lx ((0, z, 0) :: st) o S cells slots) : CB K Y h D n of Sf mc ms pc lx st o S cells slots := by
  obtain ⟨d, rfl⟩ := hat
  intro p e R s m args below meth cd C h1 h2 h3 h4 h5 h6 H locs L hP hL
  exact lv_bipush C.1 C.2.1 d hz (kk p e R s m args below meth cd C h1 h2 h3 h4 h5 h6 H locs L hP hL)
theorem b_sipush {z : Int} (hz : (Int16.ofInt z).toInt32 = Int32.ofInt z) (hat : At Y pc (.sipush z) 3 pc') (kk : CB K Y h D n of Sf mc ms pc' lx ((0, z, 0) :: st) o S cells slots) : CB K Y h D n of Sf mc ms pc lx st o S cells slots := by
  obtain ⟨d, rfl⟩ := hat
  intro p e R s m args below meth cd C h1 h2 h3 h4 h5 h6 H locs L hP hL
  exact lv_sipush C.1 C.2.1 d hz (kk p e R s m args below meth cd C h1 h2 h3 h4 h5 h6 H locs L hP hL)
theorem b_lconst (hat : At Y pc (.lconst 0) 1 pc') (kk : CB K Y h D n of Sf mc ms pc' lx ((1, 0, 0) :: st) o S cells slots) : CB K Y h D n of Sf mc ms pc lx st o S cells slots := by
  obtain ⟨d, rfl⟩ := hat
  intro p e R s m args below meth cd C h1 h2 h3 h4 h5 h6 H locs L hP hL
  exact lv_lconst C.1 C.2.1 d rfl (kk p e R s m args below meth cd C h1 h2 h3 h4 h5 h6 H locs L hP hL)
theorem b_obj {idx : Nat} (hlink : Cond.methodLink Y.1.cls idx Lib.objectInit ∈ TW) (hinst : Cond.instanceMethod Lib.objectInit ∈ TW) (hcode : Cond.code Lib.objectInit ⟨#[0xb1]⟩ 1 none ∈ TW) (hh : 1 ≤ h) (hat : At Y pc (.invokespecial idx) 3 pc') (kk : CB K Y h D n of Sf mc ms pc' lx [] o S cells slots) : CB K Y h D n of Sf mc ms pc lx [(4, 0, 0)] o S cells slots := by
  obtain ⟨d, rfl⟩ := hat
  intro p e R s m args below meth cd C h1 h2 h3 h4 h5 h6 H locs L hP hL
  have C' := C
  obtain ⟨hx, hb, hml, hown, hts, -, -, hfr, hlo⟩ := C'
  refine W.objInit hx hb hown (hts _ hlink) (hts _ hinst) (hts _ hcode) rfl (hL.1.trans hml.symm) (a := K.2.1 + n) (rest := []) rfl d (by omega) ?_ (kk p e R s m args below meth cd C h1 h2 h3 h4 h5 h6 H locs L hP hL)
  show 0 + 0 + 12 ≤ _
  omega
theorem zl_new {k : Nat} (hk : S.length = k) : zl K D n (2, 0, k) = .ref (K.2.1 + (Et D n o S).length) := by
  show Value.ref (K.2.1 + (k + D.length)) = _
  rw [et_len, hk, Nat.add_comm k]
theorem b_new {ci idx nn k : Nat} {CN : String} {T : u_T} {ty : Nat → FieldType} (hS : S' = S ++ [zd ci]) (hk : S.length = k) (htc : ∀ k, tc k (zd ci) = zd ci) (hc : clsL[ci]? = some (CN, T, nn)) (hlink : Cond.classLink Y.1.cls idx CN ∈ TW) (hinst : Cond.instantiable CN nn ∈ TW) (hini : Cond.initialized CN ∈ TW) (hws : ∀ w ∈ u_ws CN T nn, w ∈ TW) (hty : ∀ k, k < nn → parseFieldDescriptor (T k).2.2.1 = some (ty k))
    (hz : ∀ b j, j < nn → defaultValue (ty j) = zv b ((zd ci).2.2.2.getD j (3, 0, 0))) (hat : At Y pc (.new idx) 3 pc') (hcells : cells + 1 ≤ mc) (hslots : slots + nn ≤ ms) (kk : CB K Y h D n of Sf mc ms pc' lx ((2, 0, k) :: st) o S' (cells + 1) (slots + nn)) : CB K Y h D n of Sf mc ms pc lx st o S cells slots := by
  intro p e R s m args below meth cd C h1 h2 h3 h4 h5 h6 H locs L hP hL
  refine w_new C hP hc hlink hinst hini hws hty (hz K.2.1) hat (by omega) (by omega) (fun H' hP' => ?_)
  have k1 := kk p e R s m args below meth cd C h1 h2 h3 h4 h5 h6 H' locs L (by
    rw [hS, ← et_app]
    show Ph K s (Et D n o S ++ [tc D.length (zd ci)]) H' locs
    rw [htc]
    exact hP') hL
  rw [← zl_new hk]
  exact k1
theorem b_newa {atype : ArrayType} {t0 N k : Nat} {z : Int} (hS : S' = S ++ [(1, t0, N, [])]) (hk : S.length = k) (harr : Cond.arrayClass (newarray.typeOf atype) ∈ TW) (hra : ∀ s, KK K s → s.vm.findClass ("[" ++ (newarray.typeOf atype).toString) = some (K.2.2.2 t0)) (hdz : defaultValue (newarray.typeOf atype) = zv K.2.1 (dz t0)) (hz : z = N) (hN : N ≤ 100000) (hby : N * componentBytes (newarray.typeOf atype) ≤ 536870912)
    (hat : At Y pc (.newarray atype) 2 pc') (hcells : cells + 1 ≤ mc) (hslots : slots + N ≤ ms) (kk : CB K Y h D n of Sf mc ms pc' lx ((2, 0, k) :: st) o S' (cells + 1) (slots + N)) : CB K Y h D n of Sf mc ms pc lx ((0, z, 0) :: st) o S cells slots := by
  intro p e R s m args below meth cd C h1 h2 h3 h4 h5 h6 H locs L hP hL
  subst hz
  refine w_newa C hP (t0 := t0) (N := N) (n := Int32.ofInt (N : Int)) harr (hra s C.2.2.2.2.2.1) hdz (nI_pos (by omega)) (nI_clamp (by omega)) hby hat (by omega) (by omega) (fun H' hP' => ?_)
  have k1 := kk p e R s m args below meth cd C h1 h2 h3 h4 h5 h6 H' locs L (by
    rw [hS, ← et_app]
    exact hP') hL
  rw [← zl_new hk]
  exact k1
theorem raI (s : State) (h : KK K s) : s.vm.findClass ("[" ++ (newarray.typeOf .int).toString) = some (K.2.2.2 0) := (h.2 0 _ rfl).2
theorem raL (s : State) (h : KK K s) : s.vm.findClass ("[" ++ (newarray.typeOf .long).toString) = some (K.2.2.2 1) := (h.2 1 _ rfl).2
theorem b_newI {N k : Nat} {z : Int} (hS : S' = S ++ [(1, 0, N, [])]) (hk : S.length = k) (hz : z = N) (hN : N ≤ 100000) (hat : At Y pc (.newarray .int) 2 pc') (hcells : cells + 1 ≤ mc) (hslots : slots + N ≤ ms) (kk : CB K Y h D n of Sf mc ms pc' lx ((2, 0, k) :: st) o S' (cells + 1) (slots + N)) : CB K Y h D n of Sf mc ms pc lx ((0, z, 0) :: st) o S cells slots :=
  b_newa (atype := .int) hS hk kA_int raI rfl hz hN (by show N * 4 ≤ _; omega) hat hcells hslots kk
theorem b_newL {N k : Nat} {z : Int} (hS : S' = S ++ [(1, 1, N, [])]) (hk : S.length = k) (hz : z = N) (hN : N ≤ 100000) (hat : At Y pc (.newarray .long) 2 pc') (hcells : cells + 1 ≤ mc) (hslots : slots + N ≤ ms) (kk : CB K Y h D n of Sf mc ms pc' lx ((2, 0, k) :: st) o S' (cells + 1) (slots + N)) : CB K Y h D n of Sf mc ms pc lx ((0, z, 0) :: st) o S cells slots :=
  b_newa (atype := .long) hS hk kA_long raL rfl hz hN (by show N * 8 ≤ _; omega) hat hcells hslots kk
theorem b_anew {idx N k : Nat} {z : Int} (hS : S' = S ++ [(1, 2, N, List.replicate N (3, 0, 0))]) (hk : S.length = k) (hlink : Cond.classLink Y.1.cls idx RX1 ∈ TW) (hz : z = N) (hN : N ≤ 100000) (hat : At Y pc (.anewarray idx) 3 pc') (hcells : cells + 1 ≤ mc) (hslots : slots + N ≤ ms) (kk : CB K Y h D n of Sf mc ms pc' lx ((2, 0, k) :: st) o S' (cells + 1) (slots + N)) : CB K Y h D n of Sf mc ms pc lx ((0, z, 0) :: st) o S cells slots := by
  intro p e R s m args below meth cd C h1 h2 h3 h4 h5 h6 H locs L hP hL
  subst hz
  refine w_anew C hP (N := N) (n := Int32.ofInt (N : Int)) hlink (nI_pos (by omega)) (nI_clamp (by omega)) (by omega) hat (by omega) (by omega) (fun H' hP' => ?_)
  have er : (List.replicate N ((3, 0, 0) : Vz)).map (tz D.length) = List.replicate N (3, 0, 0) := by rw [List.map_replicate]; rfl
  have k1 := kk p e R s m args below meth cd C h1 h2 h3 h4 h5 h6 H' locs L (by
    rw [hS, ← et_app]
    show Ph K s (Et D n o S ++ [(1, 2, N, (List.replicate N ((3, 0, 0) : Vz)).map (tz D.length))]) H' locs
    rw [er]
    exact hP') hL
  rw [← zl_new hk]
  exact k1
theorem mrow_t (t k d M N : Nat) : (mrow t k M N).map (tc d) = mrow t (d + k) M N := by
  show (1, t + 3, N, ((List.range N).map (fun j => ((2, 0, k + 1 + j) : Vz))).map (tz d)) :: (List.replicate N ((1, t, M, []) : Cz)).map (tc d) = _
  rw [List.map_map, List.map_replicate]
  have e : (List.range N).map (tz d ∘ fun j => ((2, 0, k + 1 + j) : Vz)) = (List.range N).map (fun j => (2, 0, d + k + 1 + j)) := List.map_congr_left (fun j _ => by
    show ((2, 0, k + 1 + j + d) : Vz) = (2, 0, d + k + 1 + j)
    rw [show k + 1 + j + d = d + k + 1 + j by omega])
  rw [e]
  rfl
theorem b_mul {ty : FieldType} {t0 idx N M k : Nat} {zn zm : Int} (hS : S' = S ++ mrow t0 k M N) (hk : S.length = k) (hlink : Cond.classLink Y.1.cls idx ("[" ++ (FieldType.array ty).toString) ∈ TW) (hfA : ∀ s, KK K s → s.vm.findClass ("[" ++ (FieldType.array ty).toString) = some (K.2.2.2 (t0 + 3)) ∧ ArrOfT s (K.2.2.2 t0) ty) (hRA : ∀ s, RK K s → ∃ kA : Class, s.vm.classes[K.2.2.2 (t0 + 3)]? = some kA ∧ kA.kind = .array (K.2.2.2 t0) (.array ty))
    (hdz : defaultValue ty = zv K.2.1 (dz t0)) (hdf : fits ty (defaultValue ty) = true) (hzn : zn = N) (hzm : zm = M) (hN : N ≤ 1000) (hM : M ≤ 1000) (hMs : M * componentBytes ty ≤ 536870912) (hat : At Y pc (.multianewarray idx 2) 4 pc') (hcells : cells + (1 + N) ≤ mc) (hslots : slots + (N + N * M) ≤ ms)
    (kk : CB K Y h D n of Sf mc ms pc' lx ((2, 0, k) :: st) o S' (cells + 1 + N) (slots + N + N * M)) : CB K Y h D n of Sf mc ms pc lx ((0, zm, 0) :: (0, zn, 0) :: st) o S cells slots := by
  intro p e R s m args below meth cd C h1 h2 h3 h4 h5 h6 H locs L hP hL
  subst hzn; subst hzm
  obtain ⟨f1, f2⟩ := hfA s C.2.2.2.2.2.1
  obtain ⟨kA, g1, g2⟩ := hRA s C.2.2.2.2.2.2.1
  refine w_mul C hP (N := N) (M := M) (n := Int32.ofInt (N : Int)) (k := Int32.ofInt (M : Int)) hlink f1 g1 g2 f2 hdz hdf (nI_pos (by omega)) (nI_clamp (by omega)) (nI_pos (by omega)) (nI_clamp (by omega)) hN hMs (by omega) hat (by omega) (by omega) (fun H' hP' => ?_)
  have k1 := kk p e R s m args below meth cd C h1 h2 h3 h4 h5 h6 H' locs L (by
    rw [hS, ← et_app, mrow_t, ← hk, ← et_len (D := D) (n := n) (o := o)]
    exact hP') hL
  rw [← zl_new hk]
  exact k1
theorem b_mulI {idx N M k : Nat} {zn zm : Int} (hS : S' = S ++ mrow 0 k M N) (hk : S.length = k) (hlink : Cond.classLink Y.1.cls idx "[[I" ∈ TW) (hzn : zn = N) (hzm : zm = M) (hN : N ≤ 1000) (hM : M ≤ 1000) (hat : At Y pc (.multianewarray idx 2) 4 pc') (hcells : cells + (1 + N) ≤ mc) (hslots : slots + (N + N * M) ≤ ms)
    (kk : CB K Y h D n of Sf mc ms pc' lx ((2, 0, k) :: st) o S' (cells + 1 + N) (slots + N + N * M)) : CB K Y h D n of Sf mc ms pc lx ((0, zm, 0) :: (0, zn, 0) :: st) o S cells slots :=
  b_mul (ty := .int) (t0 := 0) hS hk hlink (fun s h => ⟨(h.2 3 _ rfl).2, (h.2 0 _ rfl).1⟩) (fun s h => h.2.1) rfl rfl hzn hzm hN hM (by show M * 4 ≤ _; omega) hat hcells hslots kk
theorem b_mulL {idx N M k : Nat} {zn zm : Int} (hS : S' = S ++ mrow 1 k M N) (hk : S.length = k) (hlink : Cond.classLink Y.1.cls idx "[[J" ∈ TW) (hzn : zn = N) (hzm : zm = M) (hN : N ≤ 1000) (hM : M ≤ 1000) (hat : At Y pc (.multianewarray idx 2) 4 pc') (hcells : cells + (1 + N) ≤ mc) (hslots : slots + (N + N * M) ≤ ms)
    (kk : CB K Y h D n of Sf mc ms pc' lx ((2, 0, k) :: st) o S' (cells + 1 + N) (slots + N + N * M)) : CB K Y h D n of Sf mc ms pc lx ((0, zm, 0) :: (0, zn, 0) :: st) o S cells slots :=
  b_mul (ty := .long) (t0 := 1) hS hk hlink (fun s h => ⟨(h.2 4 _ rfl).2, (h.2 1 _ rfl).1⟩) (fun s h => h.2.2.1) rfl rfl hzn hzm hN hM (by show M * 8 ≤ _; omega) hat hcells hslots kk
theorem b_put {ci idx nn x j : Nat} {vs : List Vz} {CN : String} {T : u_T} {ty0 : Nat → FieldType} {ty : FieldType} {v : Vz} (hc : clsL[ci]? = some (CN, T, nn)) (hj : j < nn) (hws : ∀ w ∈ u_ws CN T nn, w ∈ TW) (hT : (T j).1 = CN) (hlink : Cond.fieldLink Y.1.cls idx CN (T j).2.1 (T j).2.2.1 ∈ TW)
    (hty : ∀ k, k < nn → parseFieldDescriptor (T k).2.2.1 = some (ty0 k)) (hnm : ∀ a, a < nn → ∀ b, b < nn → a ≠ b → (T a).2.1 ≠ (T b).2.1) (hY : Y.1.cls = CN) (hd : parseFieldDescriptor (T j).2.2.1 = some ty) (hv4 : v.1 ≠ 4) (hn : ∀ b k, narrow ty (zv b (tz k v)) = zv b (tz k v)) (hfit : ∀ b k, fits ty (zv b (tz k v)) = true) (hl : j < vs.length) (hat : At Y pc (.putfield idx) 3 pc')
    (kk : CB K Y h D n of Sf mc ms pc' lx st (0, ci, x, vs.set j v) S cells slots) : CB K Y h D n of Sf mc ms pc lx (v :: (4, 0, 0) :: st) (0, ci, x, vs) S cells slots := by
  intro p e R s m args below meth cd C h1 h2 h3 h4 h5 h6 H locs L hP hL
  have ev : zl K D n v = zv K.2.1 (tz D.length v) := if_neg hv4
  show W p K.1 e R s m args below meth cd H locs cells slots _ (F0 m pc L (zl K D n v :: .ref (K.2.1 + n) :: st.map (zl K D n)))
  rw [ev]
  refine w_put C hP (n := n) (x := x) (vs := vs.map (tz D.length)) (v := tz D.length v) (et_at h6) hc hj hws hT hlink hty hnm h1 hY hd (hn _ _) (hfit _ _) (by rw [List.length_map]; exact hl) hat (fun H' locs' hP' => ?_)
  refine kk p e R s m args below meth cd C h1 h2 h3 h4 h5 h6 H' locs' L ?_ hL
  rw [← et_seto (o := (0, ci, x, vs)) h6]
  show Ph K s ((Et D n (0, ci, x, vs) S).set n (0, ci, x, (vs.set j v).map (tz D.length))) H' locs'
  rw [List.map_set]
  exact hP'
theorem b_get {ci idx nn x j : Nat} {vs : List Vz} {CN : String} {T : u_T} {v : Vz} (hc : clsL[ci]? = some (CN, T, nn)) (hj : j < nn) (hws : ∀ w ∈ u_ws CN T nn, w ∈ TW) (hT : (T j).1 = CN) (hlink : Cond.fieldLink Y.1.cls idx CN (T j).2.1 (T j).2.2.1 ∈ TW) (hv : vs.getD j (3, 0, 0) = v) (hv4 : v.1 ≠ 4) (hat : At Y pc (.getfield idx) 3 pc')
    (kk : CB K Y h D n of Sf mc ms pc' lx (v :: st) (0, ci, x, vs) S cells slots) : CB K Y h D n of Sf mc ms pc lx ((4, 0, 0) :: st) (0, ci, x, vs) S cells slots := by
  intro p e R s m args below meth cd C h1 h2 h3 h4 h5 h6 H locs L hP hL
  refine w_get C hP (n := n) (x := x) (j := j) (vs := vs.map (tz D.length)) (et_at h6) hc hj hws hT hlink hat ?_
  have k1 := kk p e R s m args below meth cd C h1 h2 h3 h4 h5 h6 H locs L hP hL
  have ev : zl K D n v = zv K.2.1 ((vs.map (tz D.length)).getD j (3, 0, 0)) := by
    rw [getD_tz, hv]
    exact if_neg hv4
  rw [← ev]
  exact k1
theorem b_aast {a v i N x : Nat} {z : Int} {vs us : List Vz} (hS : S' = S.set a (1, 2, N, vs.set i (2, 0, v))) (hA : S[a]? = some (1, 2, N, vs)) (hV : S[v]? = some (0, 0, x, us)) (hl : vs.length = N) (hi : i < N) (hN : N ≤ 1000) (hz : z = i) (hat : At Y pc .aastore 1 pc')
    (kk : CB K Y h D n of Sf mc ms pc' lx st o S' cells slots) : CB K Y h D n of Sf mc ms pc lx ((2, 0, v) :: (0, z, 0) :: (2, 0, a) :: st) o S cells slots := by
  intro p e R s m args below meth cd C h1 h2 h3 h4 h5 h6 H locs L hP hL
  subst hz
  show W p K.1 e R s m args below meth cd H locs cells slots _ (F0 m pc L (.ref (K.2.1 + (v + D.length)) :: .int (Int32.ofInt (i : Int)) :: .ref (K.2.1 + (a + D.length)) :: st.map (zl K D n)))
  rw [Nat.add_comm v, Nat.add_comm a]
  refine w_aast C hP (N := N) (x := x) (i := i) (et_in hA) (et_in hV) (by rw [List.length_map]; exact hl) hi (nI_pos (by omega)) (nI_clamp (by omega)) hat (fun H' locs' hP' => ?_)
  refine kk p e R s m args below meth cd C h1 h2 h3 h4 h5 h6 H' locs' L ?_ hL
  rw [hS, ← et_setS]
  show Ph K s ((Et D n o S).set (D.length + a) (1, 2, N, (vs.set i (2, 0, v)).map (tz D.length))) H' locs'
  rw [List.map_set]
  show Ph K s ((Et D n o S).set (D.length + a) (1, 2, N, (vs.map (tz D.length)).set i (2, 0, v + D.length))) H' locs'
  rw [Nat.add_comm v]
  exact hP'
theorem b_call {j ci idx mc' ms' k : Nat} {o' : Cz} {S1 : List Cz} (hM : Cc K Y' ci h' mc' ms' o' S1) (hS : S' = S.set j (tc k o') ++ S1.map (tc k)) (hk : S.length = k) (htc : ∀ k, tc k (zd ci) = zd ci) (hj : S[j]? = some (zd ci)) (hlink : Cond.methodLink Y.1.cls idx Y'.1 ∈ TW ∨ (Y.1.cls, idx, Y'.1, RX9) ∈ NQ) (hinst : Cond.instanceMethod Y'.1 ∈ TW) (hcode : Cond.code Y'.1 Y'.2.1 Y'.2.2.1 none ∈ TW) (hini : Cond.initialized Y'.1.cls ∈ TW) (hy1 : Y'.1.name = "<init>")
    (hd : Y'.1.cls ≠ "java/lang/invoke/MethodHandle" ∧ Y'.1.cls ≠ "java/lang/invoke/VarHandle" ∧ (parseMethodDescriptor Y'.1.desc).map (fun d => d.parameters.length) = some 0) (hm : Y'.2.2.1 ≤ 44) (hr : Y'.2.2.2 = none) (hh : h' + 1 ≤ h) (hcat : ∀ (K : Kx) (D : List Cz) (n : Nat), ((st.map (zl K D n)).map fun v => v.category).sum ≤ 8) (hat : At Y pc (.invokespecial idx) 3 pc') (hcells : cells + mc' ≤ mc) (hslots : slots + ms' ≤ ms)
    (kk : CB K Y h D n of Sf mc ms pc' lx st o S' (cells + mc') (slots + ms')) : CB K Y h D n of Sf mc ms pc lx ((2, 0, j) :: st) o S cells slots := by
  intro p e R s m args below meth cd C h1 h2 h3 h4 h5 h6 H locs L hP hL
  show W p K.1 e R s m args below meth cd H locs cells slots _ (F0 m pc L (.ref (K.2.1 + (j + D.length)) :: st.map (zl K D n)))
  rw [Nat.add_comm j]
  refine w_call C hP hM (by rw [← htc D.length]; exact et_in hj) hlink hinst hcode hini hy1 hd hm hr hh (hcat K D n) hL.1 hat (by omega) (by omega) (fun H' locs' hP' => ?_)
  refine kk p e R s m args below meth cd C h1 h2 h3 h4 h5 h6 H' locs' L ?_ hL
  have e1 : tc (D.length + k) o' = tc D.length (tc k o') := (tc_tc _ _ _).symm
  have e2 : S1.map (tc (D.length + k)) = (S1.map (tc k)).map (tc D.length) := by
    rw [List.map_map]
    exact List.map_congr_left (fun d _ => (tc_tc _ _ _).symm)
  rw [et_len, hk, e1, e2, et_setS, et_app] at hP'
  rw [hS]
  exact hP'
theorem b_ret (hat : At Y pc .return_ 1 pc') (hc : cells = mc) (hs : slots = ms) (ho : o = of) (hS : S = Sf) : CB K Y h D n of Sf mc ms pc lx [] o S cells slots := by
  obtain ⟨d, rfl⟩ := hat
  intro p e R s m args below meth cd C h1 h2 h3 h4 h5 h6 H locs L hP hL
  subst hc; subst hs; subst ho; subst hS
  exact W.vret C.1 C.2.1 h3 (fun t ht _ => ⟨rfl, by rw [ht]; exact hP.1, fun q hq => by rw [ht]; exact hP.2.2 q hq⟩) hP.2.1 d h2
theorem b_ist1 {z : Int} (hn : 1 < Y.2.2.1) (hat : At Y pc (.istore_n 1) 1 pc') (kk : CB K Y h D n of Sf mc ms pc' [(1, z)] st o S cells slots) : CB K Y h D n of Sf mc ms pc [] ((0, z, 0) :: st) o S cells slots := by
  obtain ⟨d, rfl⟩ := hat
  intro p e R s m args below meth cd C h1 h2 h3 h4 h5 h6 H locs L hP hL
  refine lv_istore_n (lv' := [(1, .int (Int32.ofInt z)), (0, .ref (K.2.1 + n))]) C.1 C.2.1 d rfl hL hn rfl (fun ls' hL' => ?_)
  exact kk p e R s m args below meth cd C h1 h2 h3 h4 h5 h6 H locs ls' hP (lv_sub hL' [1, 0] rfl)
theorem b_ild1 {z : Int} (hat : At Y pc (.iload_n 1) 1 pc') (kk : CB K Y h D n of Sf mc ms pc' [(1, z)] ((0, z, 0) :: st) o S cells slots) : CB K Y h D n of Sf mc ms pc [(1, z)] st o S cells slots := by
  obtain ⟨d, rfl⟩ := hat
  intro p e R s m args below meth cd C h1 h2 h3 h4 h5 h6 H locs L hP hL
  exact lv_iload_n C.1 C.2.1 d rfl (lv_at hL 1 rfl) (kk p e R s m args below meth cd C h1 h2 h3 h4 h5 h6 H locs L hP hL)
theorem b_inc {z z' : Int} (hn : 1 < Y.2.2.1) (hz : Int32.ofInt z + Int32.ofInt 1 = Int32.ofInt z') (hat : At Y pc (.iinc 1 1) 3 pc') (kk : CB K Y h D n of Sf mc ms pc' [(1, z')] st o S cells slots) : CB K Y h D n of Sf mc ms pc [(1, z)] st o S cells slots := by
  obtain ⟨d, rfl⟩ := hat
  intro p e R s m args below meth cd C h1 h2 h3 h4 h5 h6 H locs L hP hL
  refine lv_iinc (k := 1) (lv' := [(1, .int (Int32.ofInt z')), (0, .ref (K.2.1 + n))]) C.1 C.2.1 d hL rfl hz hn rfl (fun ls' hL' => ?_)
  exact kk p e R s m args below meth cd C h1 h2 h3 h4 h5 h6 H locs ls' hP (lv_sub hL' [1, 0] rfl)
theorem b_goto {pc1 tg : Nat} (hat : AtJ Y pc .goto pc1 tg) (kk : CB K Y h D n of Sf mc ms tg lx st o S cells slots) : CB K Y h D n of Sf mc ms pc lx st o S cells slots := by
  obtain ⟨off, dj, -, hoff⟩ := hat
  intro p e R s m args below meth cd C h1 h2 h3 h4 h5 h6 H locs L hP hL
  exact lv_goto C.1 C.2.1 dj hoff (kk p e R s m args below meth cd C h1 h2 h3 h4 h5 h6 H locs L hP hL)
theorem b_geT {x y : Int} {pc1 tg : Nat} (hle : Int32.ofInt y ≤ Int32.ofInt x) (hat : AtJ Y pc (.if_icmp .ge) pc1 tg) (kk : CB K Y h D n of Sf mc ms tg lx st o S cells slots) : CB K Y h D n of Sf mc ms pc lx ((0, y, 0) :: (0, x, 0) :: st) o S cells slots := by
  obtain ⟨off, dj, -, hoff⟩ := hat
  intro p e R s m args below meth cd C h1 h2 h3 h4 h5 h6 H locs L hP hL
  exact lv_icmp_ge C.1 C.2.1 dj hoff (fun _ => kk p e R s m args below meth cd C h1 h2 h3 h4 h5 h6 H locs L hP hL) (fun q => absurd hle q)
theorem b_geF {x y : Int} {pc1 tg : Nat} (hle : ¬ Int32.ofInt y ≤ Int32.ofInt x) (hat : AtJ Y pc (.if_icmp .ge) pc1 tg) (kk : CB K Y h D n of Sf mc ms pc1 lx st o S cells slots) : CB K Y h D n of Sf mc ms pc lx ((0, y, 0) :: (0, x, 0) :: st) o S cells slots := by
  obtain ⟨off, dj, hp, hoff⟩ := hat
  subst hp
  intro p e R s m args below meth cd C h1 h2 h3 h4 h5 h6 H locs L hP hL
  exact lv_icmp_ge C.1 C.2.1 dj hoff (fun q => absurd q hle) (fun _ => kk p e R s m args below meth cd C h1 h2 h3 h4 h5 h6 H locs L hP hL)
/-- a constructor's contract by its walk -/
theorem Cc.intro {ci : Nat} {mL : Nat} (hy : plainName Y.1.cls = true) (hm : Y.1.name = "<init>") (hr : Y.2.2.2 = none) (hL : Y.2.2.1 = 1 + mL) (htc : ∀ k, tc k (zd ci) = zd ci) (kk : ∀ (D : List Cz) (n : Nat), CB K Y h D n of Sf mc ms 0 [] [] (zd ci) [] 0 0) : Cc K Y ci h mc ms of Sf := by
  intro D n
  refine MetFree.of_bodyS (code := Y.2.1) (maxLocals := Y.2.2.1) (ret := Y.2.2.2) hy ?_ ?_
  · intro args s m h hn
    obtain ⟨meth, c, h1, h2, h3, h4, h5, h6, -, -⟩ := Cond.code_spec hn (atoms_spec (ws := wsY Y) h _ List.mem_cons_self)
    exact ⟨meth, c, h1, h2, h3, h4, h5, h6⟩
  · intro p e s m args below meth c s₁ B hml hP _
    obtain ⟨rfl, hK, hR, hH, hD⟩ := hP
    have hh0 : s₁.heap = s.heap := by rw [B.state]; rfl
    have hts : ∀ w ∈ TW, w.before #[Value.ref (K.2.1 + n)] s = true := fun w hw => atoms_spec (ws := wsY Y) B.pre w (List.mem_cons_of_mem _ hw)
    have hE := lv_entry [Value.ref (K.2.1 + n)] (n := Y.2.2.1) (by rw [hL]; show 1 ≤ _; omega)
    have hin : meth.name = "<init>" := (name_of_methodNamed B.named B.method).1.trans hm
    have hn : n < D.length := (List.getElem?_eq_some_iff.mp hD).1
    have hset : D.set n (zd ci) = D := by
      refine List.ext_getElem? (fun i => ?_)
      rw [List.getElem?_set]
      by_cases e : n = i
      · subst e
        rw [if_pos rfl, if_pos hn, hD]
      · rw [if_neg e]
    have k := kk D n p e (headSpec (wsY Y) { frames := h, cells := mc, slots := ms, locals := 64 * h }).room s m #[Value.ref (K.2.1 + n)] below meth c ⟨B.exec, B.bytes, hml, findClass_of_methodNamed B.named, hts, hK, hR, Nat.le_refl _, Nat.le_refl _⟩ hin B.notSynchronized (B.returns.trans hr) (Nat.le_refl _) (Nat.le_refl _) hn s.heap [] _
      ⟨by
        show CH K (D.set n (tc D.length (zd ci)) ++ []) s.heap
        rw [List.append_nil, htc, hset]
        exact hH, fun _ h => absurd h List.not_mem_nil, fun _ _ => rfl⟩ ⟨hE.1, hE.2.1, hE.2.2⟩
    rw [← hh0] at k
    rw [show F0 m 0 _ (List.map (zl K D n) []) = entryFrame m ([Value.ref (K.2.1 + n)] : List Value).toArray Y.2.2.1 from (lg_entry_eq m [Value.ref (K.2.1 + n)] Y.2.2.1).symm] at k
    obtain ⟨t, a1, oc, b1, b2, b3⟩ := k s₁ rfl (Stand.of_body B)
    exact ⟨t, oc, a1, b1, b2, ⟨b3.1, b3.2⟩⟩
end Rw
/-! equality of such data as a Bool -/
def veq (a b : Vz) : Bool := Nat.beq a.1 b.1 && (a.2.1 == b.2.1) && Nat.beq a.2.2 b.2.2
def vseq : List Vz → List Vz → Bool
  | [], [] => true
  | a :: s, b :: t => veq a b && vseq s t
  | _, _ => false
def deq (a b : Cz) : Bool := Nat.beq a.1 b.1 && Nat.beq a.2.1 b.2.1 && Nat.beq a.2.2.1 b.2.2.1 && vseq a.2.2.2 b.2.2.2
def lseq : List Cz → List Cz → Bool
  | [], [] => true
  | a :: s, b :: t => deq a b && lseq s t
  | _, _ => false
def oeq : Option Cz → Option Cz → Bool
  | some a, some b => deq a b
  | _, _ => false
theorem veq_eq {a b : Vz} (h : veq a b = true) : a = b := by
  obtain ⟨a1, a2, a3⟩ := a
  obtain ⟨b1, b2, b3⟩ := b
  simp only [veq, Bool.and_eq_true, beq_iff_eq] at h
  obtain ⟨⟨h1, h2⟩, h3⟩ := h
  rw [Nat.eq_of_beq_eq_true h1, h2, Nat.eq_of_beq_eq_true h3]
theorem vseq_eq : ∀ {a b : List Vz}, vseq a b = true → a = b
  | [], [], _ => rfl
  | [], _ :: _, h => by cases h
  | _ :: _, [], h => by cases h
  | a :: s, b :: t, h => by
    simp only [vseq, Bool.and_eq_true] at h
    rw [veq_eq h.1, vseq_eq h.2]
theorem deq_eq {a b : Cz} (h : deq a b = true) : a = b := by
  obtain ⟨a1, a2, a3, a4⟩ := a
  obtain ⟨b1, b2, b3, b4⟩ := b
  simp only [deq, Bool.and_eq_true] at h
  obtain ⟨⟨⟨h1, h2⟩, h3⟩, h4⟩ := h
  rw [Nat.eq_of_beq_eq_true h1, Nat.eq_of_beq_eq_true h2, Nat.eq_of_beq_eq_true h3, vseq_eq h4]
theorem lseq_eq : ∀ {a b : List Cz}, lseq a b = true → a = b
  | [], [], _ => rfl
  | [], _ :: _, h => by cases h
  | _ :: _, [], h => by cases h
  | a :: s, b :: t, h => by
    simp only [lseq, Bool.and_eq_true] at h
    rw [deq_eq h.1, lseq_eq h.2]
theorem oeq_eq : ∀ {a b : Option Cz}, oeq a b = true → a = b
  | some a, some b, h => congrArg some (deq_eq h)
  | none, _, h => by cases h
  | some _, none, h => by cases h
