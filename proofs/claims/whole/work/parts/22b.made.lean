/-! own text: what constructors make, cell by cell, as data: cells by their place behind the old heap -/
abbrev Vz : Type := Nat × Int × Nat
abbrev Cz : Type := Nat × Nat × Nat × List Vz
def zv (b : Nat) (v : Vz) : Value := match v.1 with
  | 0 => .int (Int32.ofInt v.2.1)
  | 1 => .long (Int64.ofInt v.2.1)
  | 2 => .ref (b + v.2.2)
  | _ => .null
def tz (k : Nat) (v : Vz) : Vz := if v.1 = 2 then (2, v.2.1, v.2.2 + k) else v
def tc (k : Nat) (d : Cz) : Cz := (d.1, d.2.1, d.2.2.1, d.2.2.2.map (tz k))
def dz (c : Nat) : Vz := match c with
  | 0 => (0, 0, 0)
  | 1 => (1, 0, 0)
  | _ => (3, 0, 0)
def ncl (c : Nat) : Nat := match c with
  | 0 => 8
  | 1 => 3
  | 2 => 3
  | 3 => 5
  | 4 => 11
  | 5 => 3
  | 6 => 2
  | 7 => 11
  | 8 => 34
  | _ => 0
def ft (t : FieldType) : Vz := match t with
  | .int => (0, 0, 0)
  | .boolean => (0, 0, 0)
  | .long => (1, 0, 0)
  | _ => (3, 0, 0)
/-- a new object -/
def zd (c : Nat) : Cz := (0, c, 0, (List.range (ncl c)).map (fun j => ft (cty c j)))
def zat (K : Kx) (a : Nat) (d : Cz) (H : Heap) : Prop := match d.1 with
  | 0 => ∃ q : vw_C, clsL[d.2.1]? = some q ∧ t_OB a (K.2.2.1.1 d.2.1) q.2.2 (K.2.2.1.2 d.2.1) H (fun j => zv K.2.1 (d.2.2.2.getD j (3, 0, 0)))
  | _ => H[a]? = some (arrV (K.2.2.2 d.2.1) d.2.2.1 (fun j => zv K.2.1 (d.2.2.2.getD j (dz d.2.1))))
theorem zat.lt {K : Kx} {a : Nat} {d : Cz} {H : Heap} (h : zat K a d H) : a < H.size := by
  unfold zat at h
  split at h
  · obtain ⟨q, -, cell, h1, -⟩ := h
    exact (Array.getElem?_eq_some_iff.mp h1).1
  · exact (Array.getElem?_eq_some_iff.mp h).1
theorem zat.kept {K : Kx} {a : Nat} {d : Cz} {H H' : Heap} (h : zat K a d H) (hq : H'[a]? = H[a]?) : zat K a d H' := by
  unfold zat at h ⊢
  split at h
  · obtain ⟨q, h1, h2⟩ := h
    exact ⟨q, h1, h2.kept hq⟩
  · rw [hq]; exact h
def CH (K : Kx) (D : List Cz) (H : Heap) : Prop := H.size = K.2.1 + D.length ∧ ∀ (i : Nat) (d : Cz), D[i]? = some d → zat K (K.2.1 + i) d H
theorem CH.app {K : Kx} {D S : List Cz} {H H' : Heap} (h : CH K D H) (hs : H'.size = H.size + S.length) (ho : ∀ q, q < H.size → H'[q]? = H[q]?) (hd : ∀ (i : Nat) (d : Cz), S[i]? = some d → zat K (K.2.1 + (D.length + i)) d H') : CH K (D ++ S) H' := by
  refine ⟨by rw [hs, h.1, List.length_append, Nat.add_assoc], fun i d hi => ?_⟩
  by_cases hl : i < D.length
  · rw [List.getElem?_append_left hl] at hi
    have h1 := h.2 i d hi
    exact h1.kept (ho _ h1.lt)
  · rw [List.getElem?_append_right (by omega)] at hi
    have h2 := hd _ d hi
    rw [show D.length + (i - D.length) = i by omega] at h2
    exact h2
theorem CH.push {K : Kx} {D : List Cz} {d : Cz} {H H' : Heap} (h : CH K D H) (hs : H'.size = H.size + 1) (ho : ∀ q, q < H.size → H'[q]? = H[q]?) (hd : zat K (K.2.1 + D.length) d H') : CH K (D ++ [d]) H' := by
  refine h.app (S := [d]) hs ho (fun i x hx => ?_)
  have hi : i < 1 := (List.getElem?_eq_some_iff.mp hx).1
  have h0 : i = 0 := by omega
  subst h0
  cases hx
  exact hd
theorem CH.set {K : Kx} {D : List Cz} {d : Cz} {n : Nat} {H H' : Heap} (h : CH K D H) (hs : H'.size = H.size) (ho : ∀ q, q ≠ K.2.1 + n → H'[q]? = H[q]?) (hd : zat K (K.2.1 + n) d H') : CH K (D.set n d) H' := by
  refine ⟨by rw [hs, h.1, List.length_set], fun i x hi => ?_⟩
  rw [List.getElem?_set] at hi
  by_cases e : n = i
  · subst e
    rw [if_pos rfl] at hi
    split at hi
    · cases hi
      exact hd
    · cases hi
  · rw [if_neg e] at hi
    exact (h.2 i x hi).kept (ho _ (by omega))
theorem getD_set {vs : List Vz} {j : Nat} (hj : j < vs.length) (v x : Vz) (i : Nat) : (vs.set j v).getD i x = if i = j then v else vs.getD i x := by
  rw [List.getD_eq_getElem?_getD, List.getD_eq_getElem?_getD, List.getElem?_set]
  by_cases e : i = j
  · subst e
    rw [if_pos rfl, if_pos rfl, if_pos hj]
    rfl
  · rw [if_neg (fun q => e q.symm), if_neg e]
/-! what the tables say beyond KK -/
abbrev Nq : Type := String × Nat × MethodName × String
def NQ : List Nq := [(RX9, 11, yX4_init, RX9), (RX9, 18, yX3_init, RX9), (RX2, 26, yX1_init, RX9), (RX9, 32, yX1_init, RX9), (RX9, 39, yX8_init, RX9), (RX9, 46, yX6_init, RX9), (RX9, 57, yX5_init, RX9)]
def RK (K : Kx) (U : State) : Prop := va_AO RX1 U ∧ (∃ kA : Class, U.vm.classes[K.2.2.2 3]? = some kA ∧ kA.kind = .array (K.2.2.2 0) (.array .int)) ∧ (∃ kA : Class, U.vm.classes[K.2.2.2 4]? = some kA ∧ kA.kind = .array (K.2.2.2 1) (.array .long)) ∧ ∀ q ∈ NQ, va_Nw (.methodLinkNest q.1 q.2.1 q.2.2.1 q.2.2.2) U
theorem RK.warm {K : Kx} {u U : State} (hW : u.WarmedH U.vm) (h : RK K u) : RK K U := by
  obtain ⟨h1, ⟨k2, a2, b2⟩, ⟨k3, a3, b3⟩, h4⟩ := h
  obtain ⟨k2', c2, d2⟩ := hW.alike.2.2 _ _ a2
  obtain ⟨k3', c3, d3⟩ := hW.alike.2.2 _ _ a3
  exact ⟨h1.moved hW.alike, ⟨k2', c2, by rw [d2]; exact b2⟩, ⟨k3', c3, by rw [d3]; exact b3⟩, fun q hq => va_Nw.warmM hW (h4 q hq)⟩
def Cy (K : Kx) (Y : Ys) (h : Nat) (p : Program) (R : Room) (s : State) (m : MethodId) (args : Array Value) (c : Code) : Prop :=
  p.tables.exec = Jvm.exec ∧ c.code = Y.2.1 ∧ c.maxLocals = Y.2.2.1 ∧ s.vm.findClass Y.1.cls = some m.cls ∧ (∀ w ∈ TW, w.before args s = true) ∧ KK K s ∧ RK K s ∧ h ≤ R.frames ∧ 64 * h ≤ R.locals
def Ph (K : Kx) (s : State) (D : List Cz) (H : Heap) (locs : List Loc) : Prop := CH K D H ∧ (∀ z ∈ locs, K.2.1 ≤ z.base) ∧ ∀ q, q < K.2.1 → H[q]? = s.heap[q]?
def CcPre (K : Kx) (D : List Cz) (n ci : Nat) : Array Value → State → Prop := fun a U => a = #[.ref (K.2.1 + n)] ∧ KK K U ∧ RK K U ∧ CH K D U.heap ∧ D[n]? = some (zd ci)
def CcPost (K : Kx) (D : List Cz) (n : Nat) (o : Cz) (S : List Cz) : Array Value → State → Outcome → State → Prop := fun _ st oc t => oc = .returned none ∧ CH K (D.set n (tc D.length o) ++ S.map (tc D.length)) t.heap ∧ ∀ q, q < K.2.1 → t.heap[q]? = st.heap[q]?
/-- a constructor: whatever lies there, it makes the object o and the cells S, mc cells with ms slots -/
def Cc (K : Kx) (Y : Ys) (ci h mc ms : Nat) (o : Cz) (S : List Cz) : Prop := ∀ (D : List Cz) (n : Nat), Met K.1 Y.1 (wsY Y) { frames := h, cells := mc, slots := ms, locals := 64 * h } (CcPre K D n ci) (CcPost K D n o S) mc ms (fun q => K.2.1 ≤ q)
section WM
variable {K : Kx} {Y Y' : Ys} {h h' : Nat} {p : Program} {e : Env} {R : Room} {s : State} {m : MethodId} {args : Array Value} {below : List Frame} {meth : Method} {cd : Code} {H : Heap} {locs : List Loc} {cells slots pc pc' : Nat} {Q : State → Prop} {L : Array Slot} {st : List Value} {D : List Cz}
theorem w_new (C : Cy K Y h p R s m args cd) (hP : Ph K s D H locs) {ci idx nn : Nat} {CN : String} {T : u_T} {ty : Nat → FieldType} (hc : clsL[ci]? = some (CN, T, nn)) (hlink : Cond.classLink Y.1.cls idx CN ∈ TW) (hinst : Cond.instantiable CN nn ∈ TW) (hini : Cond.initialized CN ∈ TW) (hws : ∀ w ∈ u_ws CN T nn, w ∈ TW) (hty : ∀ k, k < nn → parseFieldDescriptor (T k).2.2.1 = some (ty k))
    (hz : ∀ j, j < nn → defaultValue (ty j) = zv K.2.1 ((zd ci).2.2.2.getD j (3, 0, 0))) (hat : At Y pc (.new idx) 3 pc') (hcells : cells + 1 ≤ R.cells) (hslots : slots + nn ≤ R.slots)
    (kk : ∀ H' : Heap, Ph K s (D ++ [zd ci]) H' locs → W p K.1 e R s m args below meth cd H' locs (cells + 1) (slots + nn) Q (F0 m pc' L (.ref (K.2.1 + D.length) :: st))) : W p K.1 e R s m args below meth cd H locs cells slots Q (F0 m pc L st) := by
  obtain ⟨d, rfl⟩ := hat
  obtain ⟨hx, hb, -, hown, hts, hK, -, -, -⟩ := C
  obtain ⟨h1, h2, h3⟩ := hP
  have hKn := hK.1 ci _ hc
  refine W.newcK hx hb hown (hts _ hlink) (hts _ hinst) (hts _ hini) rfl d hcells hslots hKn.2.1 h1.1 fun H1 kC hkC e1 z1 o1 => ?_
  exact kk H1 ⟨h1.push (by rw [z1, h1.1]) (fun q hq => o1 q (by rw [← h1.1]; exact hq)) ⟨_, hc, (u_born ty hts hws hKn hkC e1 hty).to hz⟩, h2, fun q hq => (o1 q (by omega)).trans (h3 q hq)⟩
theorem w_newa (C : Cy K Y h p R s m args cd) (hP : Ph K s D H locs) {atype : ArrayType} {t0 N : Nat} {n : Int32} (harr : Cond.arrayClass (newarray.typeOf atype) ∈ TW) (hra : s.vm.findClass ("[" ++ (newarray.typeOf atype).toString) = some (K.2.2.2 t0)) (hdz : defaultValue (newarray.typeOf atype) = zv K.2.1 (dz t0)) (hn : ¬ n < 0) (hN : n.toNatClampNeg = N) (hby : N * componentBytes (newarray.typeOf atype) ≤ 536870912)
    (hat : At Y pc (.newarray atype) 2 pc') (hcells : cells + 1 ≤ R.cells) (hslots : slots + N ≤ R.slots)
    (kk : ∀ H' : Heap, Ph K s (D ++ [(1, t0, N, [])]) H' locs → W p K.1 e R s m args below meth cd H' locs (cells + 1) (slots + N) Q (F0 m pc' L (.ref (K.2.1 + D.length) :: st))) : W p K.1 e R s m args below meth cd H locs cells slots Q (F0 m pc L (.int n :: st)) := by
  obtain ⟨d, rfl⟩ := hat
  obtain ⟨hx, hb, -, hown, hts, hK, -, -, -⟩ := C
  obtain ⟨h1, h2, h3⟩ := hP
  refine va_newaK hx hb (hts _ harr) rfl d rfl hn hN hby hcells hslots h1.1 (fun H1 cA e1 z1 o1 hAr hNm => ?_)
  have hcA : cA = K.2.2.2 t0 := Option.some.inj (hNm.symm.trans hra)
  subst hcA
  refine kk H1 ⟨h1.push (by rw [z1, h1.1]) (fun q hq => o1 q (by rw [← h1.1]; exact hq)) ?_, h2, fun q hq => (o1 q (by omega)).trans (h3 q hq)⟩
  show H1[_]? = some (arrV _ _ _)
  rw [e1]
  exact congrArg some (arrV_cg (fun j _ => hdz))
theorem w_anew (C : Cy K Y h p R s m args cd) (hP : Ph K s D H locs) {idx N : Nat} {n : Int32} (hlink : Cond.classLink Y.1.cls idx RX1 ∈ TW) (hn : ¬ n < 0) (hN : n.toNatClampNeg = N) (hby : N * 4 ≤ 536870912) (hat : At Y pc (.anewarray idx) 3 pc') (hcells : cells + 1 ≤ R.cells) (hslots : slots + N ≤ R.slots)
    (kk : ∀ H' : Heap, Ph K s (D ++ [(1, 2, N, List.replicate N (3, 0, 0))]) H' locs → W p K.1 e R s m args below meth cd H' locs (cells + 1) (slots + N) Q (F0 m pc' L (.ref (K.2.1 + D.length) :: st))) : W p K.1 e R s m args below meth cd H locs cells slots Q (F0 m pc L (.int n :: st)) := by
  obtain ⟨d, rfl⟩ := hat
  subst hN
  obtain ⟨hx, hb, -, hown, hts, hK, hR, -, -⟩ := C
  obtain ⟨h1, h2, h3⟩ := hP
  refine W.anew hx hb hown (hts _ hlink) (va_AO.use hR.1) rfl d rfl hn hby hcells hslots fun cA kA comp f1 f2 f3 f4 => ?_
  obtain ⟨kA', comp', -, -, -, g4⟩ := (hK.2 2 _ rfl).2
  have hcA : cA = K.2.2.2 2 := Option.some.inj (f1.symm.trans g4)
  subst hcA
  generalize hH1 : H.push ({ cls := K.2.2.2 2, slots := Array.replicate n.toNatClampNeg .null, vm := .none } : Cell) = H1
  have z1 : H1.size = H.size + 1 := by rw [← hH1, Array.size_push]
  have e1 : H1[H.size]? = some (arrV (K.2.2.2 2) n.toNatClampNeg (fun _ => .null)) := by rw [← hH1, Array.getElem?_push_size, ← arrV_new]
  have o1 : ∀ q : Nat, q < H.size → H1[q]? = H[q]? := fun q hq => by rw [← hH1, Array.getElem?_push, if_neg (Nat.ne_of_lt hq)]
  have hs := h1.1
  show W p K.1 e R s m args below meth cd H1 locs _ _ Q (F0 m (pc + 3) L (.ref H.size :: st))
  rw [hs]
  refine kk H1 ⟨h1.push z1 o1 ?_, h2, fun q hq => (o1 q (by omega)).trans (h3 q hq)⟩
  show H1[_]? = some (arrV _ _ _)
  rw [← hs, e1]
  refine congrArg some (arrV_cg (fun j hj => ?_))
  show Value.null = zv K.2.1 ((List.replicate n.toNatClampNeg ((3, 0, 0) : Vz)).getD j _)
  rw [List.getD_eq_getElem?_getD, List.getElem?_replicate, if_pos hj]
  rfl
def mrow (t b M N : Nat) : List Cz := (1, t + 3, N, (List.range N).map (fun j => (2, 0, b + 1 + j))) :: List.replicate N (1, t, M, [])
theorem w_mul (C : Cy K Y h p R s m args cd) (hP : Ph K s D H locs) {ty : FieldType} {t0 idx N M : Nat} {n k : Int32} {kA : Class} (hlink : Cond.classLink Y.1.cls idx ("[" ++ (FieldType.array ty).toString) ∈ TW) (hfA : s.vm.findClass ("[" ++ (FieldType.array ty).toString) = some (K.2.2.2 (t0 + 3))) (hkA : s.vm.classes[K.2.2.2 (t0 + 3)]? = some kA) (hkindA : kA.kind = .array (K.2.2.2 t0) (.array ty)) (hAr : ArrOfT s (K.2.2.2 t0) ty)
    (hdz : defaultValue ty = zv K.2.1 (dz t0)) (hdf : fits ty (defaultValue ty) = true) (hn : ¬ n < 0) (hN : n.toNatClampNeg = N) (hk : ¬ k < 0) (hM : k.toNatClampNeg = M) (hNs : N ≤ 1000) (hMs : M * componentBytes ty ≤ 536870912) (hM3 : M ≤ 536870912)
    (hat : At Y pc (.multianewarray idx 2) 4 pc') (hcells : cells + (1 + N) ≤ R.cells) (hslots : slots + (N + N * M) ≤ R.slots)
    (kk : ∀ H' : Heap, Ph K s (D ++ mrow t0 D.length M N) H' locs → W p K.1 e R s m args below meth cd H' locs (cells + 1 + N) (slots + N + N * M) Q (F0 m pc' L (.ref (K.2.1 + D.length) :: st))) : W p K.1 e R s m args below meth cd H locs cells slots Q (F0 m pc L (.int k :: .int n :: st)) := by
  obtain ⟨d, rfl⟩ := hat
  obtain ⟨hx, hb, -, hown, hts, hK, hR, -, -⟩ := C
  obtain ⟨h1, h2, h3⟩ := hP
  obtain ⟨-, kC, hkC, c0, hkindC⟩ := hAr 0 (fun _ => .null)
  have hs := h1.1
  refine w_multi hx hb hown (hts _ hlink) hfA hkA hkindA hkC hkindC rfl d rfl hn hk hN hM (by omega) hMs hM3 hdf hcells hslots fun H1 z1 o1 e1 i1 => ?_
  show W p K.1 e R s m args below meth cd H1 locs _ _ Q (F0 m (pc + 4) L (.ref H.size :: st))
  rw [hs]
  refine kk H1 ⟨h1.app (by rw [z1]; simp [mrow]; omega) o1 (fun i x hx => ?_), h2, fun q hq => (o1 q (by omega)).trans (h3 q hq)⟩
  cases i with
  | zero =>
    cases hx
    show H1[_]? = some (arrV _ _ _)
    rw [show K.2.1 + (D.length + 0) = H.size by omega, e1]
    refine congrArg some (arrV_cg (fun j hj => ?_))
    show _ = zv K.2.1 (((List.range N).map (fun j => ((2, 0, D.length + 1 + j) : Vz))).getD j _)
    rw [List.getD_eq_getElem?_getD, List.getElem?_map, List.getElem?_range hj]
    show Value.ref (H.size + 1 + j) = Value.ref (K.2.1 + (D.length + 1 + j))
    rw [hs, show K.2.1 + D.length + 1 + j = K.2.1 + (D.length + 1 + j) by omega]
  | succ i =>
    have hx' : (List.replicate N ((1, t0, M, []) : Cz))[i]? = some x := hx
    rw [List.getElem?_replicate] at hx'
    split at hx'
    · rename_i hi
      cases hx'
      show H1[_]? = some (arrV _ _ _)
      rw [show K.2.1 + (D.length + (i + 1)) = H.size + 1 + i by omega, i1 i hi]
      exact congrArg some (arrV_cg (fun j _ => hdz))
    · cases hx'
theorem w_put (C : Cy K Y h p R s m args cd) (hP : Ph K s D H locs) {n ci idx nn x j : Nat} {vs : List Vz} {CN : String} {T : u_T} {ty0 : Nat → FieldType} {ty : FieldType} {v : Vz} (hD : D[n]? = some (0, ci, x, vs)) (hc : clsL[ci]? = some (CN, T, nn)) (hj : j < nn) (hws : ∀ w ∈ u_ws CN T nn, w ∈ TW) (hT : (T j).1 = CN) (hlink : Cond.fieldLink Y.1.cls idx CN (T j).2.1 (T j).2.2.1 ∈ TW)
    (hty : ∀ k, k < nn → parseFieldDescriptor (T k).2.2.1 = some (ty0 k)) (hnm : ∀ a, a < nn → ∀ b, b < nn → a ≠ b → (T a).2.1 ≠ (T b).2.1) (hin : meth.name = "<init>") (hY : Y.1.cls = CN) (hd : parseFieldDescriptor (T j).2.2.1 = some ty) (hn : narrow ty (zv K.2.1 v) = zv K.2.1 v) (hfit : fits ty (zv K.2.1 v) = true) (hl : j < vs.length) (hat : At Y pc (.putfield idx) 3 pc')
    (kk : ∀ (H' : Heap) (locs' : List Loc), Ph K s (D.set n (0, ci, x, vs.set j v)) H' locs' → W p K.1 e R s m args below meth cd H' locs' cells slots Q (F0 m pc' L st)) : W p K.1 e R s m args below meth cd H locs cells slots Q (F0 m pc L (zv K.2.1 v :: .ref (K.2.1 + n) :: st)) := by
  obtain ⟨d, rfl⟩ := hat
  obtain ⟨hx, hb, -, hown, hts, hK, -, -, -⟩ := C
  obtain ⟨h1, h2, h3⟩ := hP
  have hap := va_apart (own := Y.1.cls) hts hws ty0 hty hnm hK hc
  obtain ⟨r, hr, cell, q1, q2, q3, q4⟩ := h1.2 n _ hD
  have hr' : r = (CN, T, nn) := Option.some.inj (hr.symm.trans hc)
  subst hr'
  obtain ⟨hS, hfc, kC, hkC, hkind⟩ := hK.1 ci _ hc
  obtain ⟨cf, kf, fi, f, hi, hsl⟩ := hS j hj
  have hst := (u_facts hfc hkC (u_lays hts hws hj) hi).1
  have fin : ∀ (H' : Heap), H'[K.2.1 + n]? = some (cell.setSlot f.slot (zv K.2.1 v)) → H'.size = H.size → (∀ q, q ≠ K.2.1 + n → H'[q]? = H[q]?) → W p K.1 e R s m args below meth cd H' (locs ++ [⟨K.2.1 + n, f.slot⟩]) cells slots Q (F0 m (pc + 3) L st) := by
    intro H' e1 e2 e3
    rw [hsl] at e1
    refine kk H' _ ⟨h1.set e2 e3 ⟨_, hc, t_OB.to (V := updV (fun j => zv K.2.1 (vs.getD j (3, 0, 0))) j (zv K.2.1 v)) ⟨_, e1, q2, q3, t_set q4 hap hj (zv K.2.1 v)⟩ (fun i _ => ?_)⟩, fun z hz => ?_, fun q hq => (e3 q (by omega)).trans (h3 q hq)⟩
    · show updV _ j _ i = zv K.2.1 ((vs.set j v).getD i (3, 0, 0))
      rw [getD_set hl]
      unfold updV
      by_cases e : i = j
      · rw [if_pos e, if_pos e]
      · rw [if_neg e, if_neg e]
    · rcases List.mem_append.mp hz with hz | hz
      · exact h2 z hz
      · rw [List.mem_singleton.mp hz]
        exact Nat.le_add_right _ _
  have hlay := hts _ (hws _ (u_in_lay hj))
  unfold u_lay at hlay
  split at hlay
  · have hcf : m.cls = cf := by
      obtain ⟨_, _, c', _, _, _, -, -, hf', -, -, -, hown2, -⟩ := Cond.laysFinal_spec hlay
      have e1 : c' = cf := by have := hi.symm.trans hf'; simp at this; exact this.1.symm
      rw [hT, ← hY] at hown2
      rw [← e1]; exact Option.some.inj (hown.symm.trans hown2)
    have h6 := u_fits hfc hkC hkind (Or.inr hlay) hi hd hn hfit
    exact W.putFinK hx hb hown (hts _ hlink) (hT ▸ hi) hst hcf hin (by rw [q2]; exact h6) q1 q3 (by rw [hsl]; exact k2_hasslot (q4 j hj)) rfl rfl d fin
  · have h6 := u_store hfc hkC hkind hlay hi hd hn hfit
    exact W.putK hx hb (f := f) ⟨hown, hts _ hlink, ⟨_, _, _, hT ▸ hi⟩, hst⟩ (by rw [q2]; exact h6) q1 q3 (by rw [hsl]; exact k2_hasslot (q4 j hj)) rfl rfl d fin
theorem w_get (C : Cy K Y h p R s m args cd) (hP : Ph K s D H locs) {n ci idx nn x j : Nat} {vs : List Vz} {CN : String} {T : u_T} (hD : D[n]? = some (0, ci, x, vs)) (hc : clsL[ci]? = some (CN, T, nn)) (hj : j < nn) (hws : ∀ w ∈ u_ws CN T nn, w ∈ TW) (hT : (T j).1 = CN) (hlink : Cond.fieldLink Y.1.cls idx CN (T j).2.1 (T j).2.2.1 ∈ TW) (hat : At Y pc (.getfield idx) 3 pc')
    (kk : W p K.1 e R s m args below meth cd H locs cells slots Q (F0 m pc' L (zv K.2.1 (vs.getD j (3, 0, 0)) :: st))) : W p K.1 e R s m args below meth cd H locs cells slots Q (F0 m pc L (.ref (K.2.1 + n) :: st)) := by
  obtain ⟨d, rfl⟩ := hat
  obtain ⟨hx, hb, -, hown, hts, hK, -, -, -⟩ := C
  obtain ⟨h1, h2, h3⟩ := hP
  obtain ⟨r, hr, cell, q1, q2, q3, q4⟩ := h1.2 n _ hD
  have hr' : r = (CN, T, nn) := Option.some.inj (hr.symm.trans hc)
  subst hr'
  obtain ⟨hS, hfc, kC, hkC, hkind⟩ := hK.1 ci _ hc
  obtain ⟨cf, kf, fi, f, hi, hsl⟩ := hS j hj
  refine W.getf hx hb hown (hts _ hlink) (hT ▸ hi) (u_facts hfc hkC (u_lays hts hws hj) hi).1 q1 (by rw [q3]; exact fun h => by cases h) (v := zv K.2.1 (vs.getD j (3, 0, 0))) ?_ rfl rfl d kk
  rw [hsl, q4 j hj]
theorem w_aast (C : Cy K Y h p R s m args cd) (hP : Ph K s D H locs) {a v i N x : Nat} {vs us : List Vz} {z : Int32} (hA : D[a]? = some (1, 2, N, vs)) (hV : D[v]? = some (0, 0, x, us)) (hl : vs.length = N) (hi : i < N) (hz0 : ¬ z < 0) (hz : z.toNatClampNeg = i) (hat : At Y pc .aastore 1 pc')
    (kk : ∀ (H' : Heap) (locs' : List Loc), Ph K s (D.set a (1, 2, N, vs.set i (2, 0, v))) H' locs' → W p K.1 e R s m args below meth cd H' locs' cells slots Q (F0 m pc' L st)) : W p K.1 e R s m args below meth cd H locs cells slots Q (F0 m pc L (.ref (K.2.1 + v) :: .int z :: .ref (K.2.1 + a) :: st)) := by
  obtain ⟨d, rfl⟩ := hat
  obtain ⟨hx, hb, -, hown, hts, hK, -, -, -⟩ := C
  obtain ⟨h1, h2, h3⟩ := hP
  subst hz
  obtain ⟨r, hr, cellV, g1, g2, g3, -⟩ := h1.2 v _ hV
  have hA1 : H[K.2.1 + a]? = some (arrV (K.2.2.2 2) N (fun j => zv K.2.1 (vs.getD j (dz 2)))) := h1.2 a _ hA
  have hcls := (hK.1 0 _ rfl).2
  obtain ⟨kA, comp, k1, k2, k3, -⟩ := (hK.2 2 _ rfl).2
  have hcomp : comp = K.2.2.1.1 0 := Option.some.inj (k3.symm.trans hcls.1)
  subst hcomp
  obtain ⟨kC, hkC, -⟩ := hcls.2
  refine W.aast hx hb hA1 (fun q h => by cases h) (fun h => by cases h) k1 k2 rfl hkC ⟨hz0, by rw [arrV_size]; exact hi⟩ g1 (fun q h => by rw [g3] at h; cases h) (by rw [g2]; exact hkC) (by rw [g2]; exact va_assign hcls) rfl rfl d fun H1 e1 z1 o1 => ?_
  refine kk H1 _ ⟨h1.set z1 o1 ?_, fun y hy => ?_, fun q hq => (o1 q (Nat.ne_of_lt (Nat.lt_of_lt_of_le hq (Nat.le_add_right _ _)))).trans (h3 q hq)⟩
  · show H1[_]? = some (arrV _ _ _)
    rw [e1, arrV_store]
    refine congrArg some (arrV_cg (fun j _ => ?_))
    show updV _ _ _ j = zv K.2.1 ((vs.set z.toNatClampNeg (2, 0, v)).getD j (dz 2))
    rw [getD_set (by omega)]
    unfold updV
    by_cases e : j = z.toNatClampNeg
    · rw [if_pos e, if_pos e]
      rfl
    · rw [if_neg e, if_neg e]
  · rcases List.mem_append.mp hy with hy | hy
    · exact h2 y hy
    · rw [List.mem_singleton.mp hy]
      exact Nat.le_add_right _ _
theorem w_call (C : Cy K Y h p R s m args cd) (hP : Ph K s D H locs) {n ci idx mc ms : Nat} {o : Cz} {S : List Cz} (hM : Cc K Y' ci h' mc ms o S) (hD : D[n]? = some (zd ci)) (hlink : Cond.methodLink Y.1.cls idx Y'.1 ∈ TW ∨ (Y.1.cls, idx, Y'.1, RX9) ∈ NQ) (hinst : Cond.instanceMethod Y'.1 ∈ TW) (hcode : Cond.code Y'.1 Y'.2.1 Y'.2.2.1 none ∈ TW) (hini : Cond.initialized Y'.1.cls ∈ TW) (hy1 : Y'.1.name = "<init>")
    (hd : Y'.1.cls ≠ "java/lang/invoke/MethodHandle" ∧ Y'.1.cls ≠ "java/lang/invoke/VarHandle" ∧ (parseMethodDescriptor Y'.1.desc).map (fun d => d.parameters.length) = some 0) (hm : Y'.2.2.1 ≤ 44) (hr : Y'.2.2.2 = none) (hh : h' + 1 ≤ h) (hcat : (st.map fun v => v.category).sum ≤ 8) (hLs : L.size = Y.2.2.1) (hat : At Y pc (.invokespecial idx) 3 pc') (hcells : cells + mc ≤ R.cells) (hslots : slots + ms ≤ R.slots)
    (kk : ∀ (H' : Heap) (locs' : List Loc), Ph K s (D.set n (tc D.length o) ++ S.map (tc D.length)) H' locs' → W p K.1 e R s m args below meth cd H' locs' (cells + mc) (slots + ms) Q (F0 m pc' L st)) : W p K.1 e R s m args below meth cd H locs cells slots Q (F0 m pc L (.ref (K.2.1 + n) :: st)) := by
  obtain ⟨d, rfl⟩ := hat
  obtain ⟨hx, hb, hml, hown, hts, hK, hR, hfr, hlo⟩ := C
  obtain ⟨h1, h2, h3⟩ := hP
  intro T hT X
  have hbl : FrameBlind (CcPre K D n ci) := fun a U g mk ⟨q1, q2, q3, q4, q5⟩ => ⟨q1, KK.moved (u := U) (U := U.calling g mk a) (Vm.Alike.refl U.vm) q2, RK.warm (u := U) (U := U.calling g mk a) (State.WarmedH.refl U) q3, q4, q5⟩
  have hB : Back K.1 R p e below s args Y'.1 3 8 (PreOf R mc ms (CcPre K D n ci)) (PostOf (CcPost K D n o S) mc ms (fun q => K.2.1 ≤ q)) := by
    refine back_of (bytes := Y'.2.1) (maxL := Y'.2.2.1) (ret := none) (hM D n) hbl rfl rfl (by show h' + 1 ≤ _; omega) (by show 8 + (Y'.2.2.1 + 11) + 64 * h' ≤ _; omega) (fun w hw a' U hW => ?_) (List.mem_cons_of_mem _ hcode) (fun a' U hW => tw_warm hts hW _ hini)
    rcases List.mem_cons.mp hw with rfl | hw
    · rw [hr]
      exact tw_warm hts hW _ hcode
    · exact tw_warm hts hW _ hw
  have hpre : ∀ vm₁, s.WarmedH vm₁ → PreOf R mc ms (CcPre K D n ci) ⟨T.setVm vm₁, locs, cells, slots⟩ (Value.ref (K.2.1 + n) :: []).toArray := fun vm₁ hW₁ =>
    ⟨hcells, hslots, rfl, KK.moved (u := s) hW₁.alike hK, RK.warm (u := s) (U := T.setVm vm₁) hW₁ hR, by show CH K D T.heap; rw [hT]; exact h1, hD⟩
  have hlen : ∀ sig, parseMethodDescriptor Y'.1.desc = some sig → ([] : List Value).length = sig.parameters.length := fun sig hsig => by
    have h5 := hd.2.2
    rw [hsig] at h5
    exact (Option.some.inj h5).symm
  have hrm : 2 * (F0 m pc L (.ref (K.2.1 + n) :: st)).monitorRoom + (st.map fun v => v.category).sum ≤ 8 := lv_room hcat
  have key : ∃ (v : Option Value) (vm₁ : Vm) (B : Pt), s.WarmedH vm₁ ∧ Stand p K.1 e R s m args below meth cd B.U B.locs B.cells B.slots ∧ PostOf (CcPost K D n o S) mc ms (fun q => K.2.1 ≤ q) ⟨T.setVm vm₁, locs, cells, slots⟩ (Value.ref (K.2.1 + n) :: []).toArray v B ∧
      ∀ target, Steps p.tables e below (B.U.setTop { (F0 m pc L (.ref (K.2.1 + n) :: st)) with pc := pc + 3, stack := v.toList ++ st }) target → Steps p.tables e below (T.setTop (F0 m pc L (.ref (K.2.1 + n) :: st))) target := by
    rcases hlink with hlink | hlink
    · exact callI X hx (bytes := Y'.2.1) (maxL := Y'.2.2.1) hown hy1 (hts _ hlink) (hts _ hinst) (hts _ hcode) ⟨hd.1, hd.2.1⟩ hB (g := F0 m pc L (.ref (K.2.1 + n) :: st)) rfl (hLs.trans hml.symm) (argsL := []) (rest := st) hlen rfl hrm (by rw [hb]; exact d) hpre
    · exact va_callIN X hx (bytes := Y'.2.1) (maxL := Y'.2.2.1) hown hy1 (va_Nw.use rfl (hR.2.2.2 _ hlink)) (hts _ hinst) (hts _ hcode) ⟨hd.1, hd.2.1⟩ hB (g := F0 m pc L (.ref (K.2.1 + n) :: st)) rfl (hLs.trans hml.symm) (argsL := []) (rest := st) hlen rfl hrm (by rw [hb]; exact d) hpre
  obtain ⟨v, vm₁, ⟨U', l2, c2, s2⟩, hW₁, X', ⟨g', mk, t, Lo, e1, e2, ⟨hv, hq, hq0⟩, g1, hL, g2, g3⟩, stp⟩ := key
  dsimp only [Pt.U, Pt.locs, Pt.cells, Pt.slots] at X' e1 e2 g1 g2 g3 stp
  subst g1; subst g2; subst g3
  cases hv
  have hq0' : ∀ q, q < K.2.1 → t.heap[q]? = T.heap[q]? := hq0
  have hloc : ∀ z ∈ locs ++ Lo, K.2.1 ≤ z.base := fun z hz => by
    rcases List.mem_append.mp hz with hz | hz
    · exact h2 z hz
    · exact hL z hz
  obtain ⟨t2, a1, b1⟩ := kk U'.heap (locs ++ Lo) ⟨by rw [e1]; exact hq, hloc, fun q hq => by rw [e1, hq0' q hq, hT]; exact h3 q hq⟩ U' rfl X'
  exact ⟨t2, stp t2 a1, b1⟩
end WM
