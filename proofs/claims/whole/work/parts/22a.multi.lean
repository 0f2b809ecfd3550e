/-! own text: an array of arrays, as multianewarray of two dimensions makes it -/
theorem arrV_cg {c : ClassId} {N : Nat} {f f' : Nat → Value} (h : ∀ j, j < N → f j = f' j) : arrV c N f = arrV c N f' := by
  show ({ cls := c, slots := Array.ofFn (n := N) fun j => f j.val, vm := .none } : Cell) = { cls := c, slots := Array.ofFn (n := N) fun j => f' j.val, vm := .none }
  rw [show (fun j : Fin N => f j.val) = (fun j : Fin N => f' j.val) from funext fun j => h j.val j.isLt]
def ma_o (c : ClassId) (N h0 i : Nat) : Cell := arrV c N (fun j => if j < i then .ref (h0 + 1 + j) else .null)
def ma_s (s : State) (c comp : ClassId) (N M : Nat) (dv : Value) : Nat → State
  | 0 => s.pushCell (ma_o c N s.heap.size 0)
  | i + 1 => ((ma_s s c comp N M dv i).pushCell (arrV comp M (fun _ => dv))).setCell s.heap.size (ma_o c N s.heap.size (i + 1))
theorem ma_next (c : ClassId) (N h0 i : Nat) : (ma_o c N h0 i).setSlot i (.ref (h0 + 1 + i)) = ma_o c N h0 (i + 1) := by
  unfold ma_o
  rw [arrV_store]
  refine arrV_cg (fun j _ => ?_)
  unfold updV
  by_cases e : j = i
  · subst e
    rw [if_pos rfl, if_pos (Nat.lt_succ_self _)]
  · rw [if_neg e]
    show (if j < i then Value.ref (h0 + 1 + j) else Value.null) = _
    by_cases h : j < i
    · rw [if_pos h, if_pos (Nat.lt_succ_of_lt h)]
    · rw [if_neg h, if_neg (fun q => h (by omega))]
theorem ma_f (s : State) (c comp : ClassId) (N M : Nat) (dv : Value) : ∀ i, (ma_s s c comp N M dv i).heap.size = s.heap.size + 1 + i ∧ (ma_s s c comp N M dv i).heap[s.heap.size]? = some (ma_o c N s.heap.size i) ∧ (ma_s s c comp N M dv i).vm = s.vm ∧ (ma_s s c comp N M dv i).slotsUsed = s.slotsUsed + N + i * M
  | 0 => ⟨size_pushCell _ _, State.heap_pushCell_size _ _, rfl, by
    show s.slotsUsed + (ma_o c N s.heap.size 0).slots.size = _
    rw [show (ma_o c N s.heap.size 0).slots.size = N from arrV_size _ _ _]
    omega⟩
  | i + 1 => by
    obtain ⟨a, b, d, u⟩ := ma_f s c comp N M dv i
    have hlt : s.heap.size < (ma_s s c comp N M dv i).heap.size := by omega
    have hb' : ((ma_s s c comp N M dv i).pushCell (arrV comp M (fun _ => dv))).heap[s.heap.size]? = some (ma_o c N s.heap.size i) := by rw [State.heap_pushCell_of_lt (h := hlt)]; exact b
    refine ⟨?_, ?_, d, ?_⟩
    · show (((ma_s s c comp N M dv i).pushCell (arrV comp M (fun _ => dv))).setCell s.heap.size _).heap.size = _
      rw [size_setCell, size_pushCell]
      omega
    · exact heapAt_setCell_self _ (by rw [size_pushCell, a]; exact Nat.lt_of_lt_of_le (Nat.lt_succ_self _) (Nat.le_trans (Nat.le_add_right _ i) (Nat.le_succ _)))
    · show (ma_s s c comp N M dv i).slotsUsed + (arrV comp M (fun _ => dv)).slots.size = _
      rw [u, arrV_size, Nat.succ_mul]
      omega
theorem ma_top (s : State) (f : JFrame) (c comp : ClassId) (N M : Nat) (dv : Value) : ∀ i, ma_s (s.setTop f) c comp N M dv i = (ma_s s c comp N M dv i).setTop f
  | 0 => rfl
  | i + 1 => by simp only [ma_s, ma_top s f c comp N M dv i, State.heap_setTop, State.pushCell_setTop, State.setCell_setTop]
theorem ma_old (s : State) (c comp : ClassId) (N M : Nat) (dv : Value) {a : Addr} (ha : a < s.heap.size) : ∀ i, (ma_s s c comp N M dv i).heap[a]? = s.heap[a]?
  | 0 => State.heap_pushCell_of_lt _ _ ha
  | i + 1 => by
    have f1 := (ma_f s c comp N M dv i).1
    have hlt : a < (ma_s s c comp N M dv i).heap.size := Nat.lt_of_lt_of_le ha (by rw [f1]; omega)
    show (((ma_s s c comp N M dv i).pushCell (arrV comp M (fun _ => dv))).setCell s.heap.size _).heap[a]? = _
    rw [heapAt_setCell_ne _ (Nat.ne_of_gt ha), State.heap_pushCell_of_lt (h := hlt)]
    exact ma_old s c comp N M dv ha i
theorem ma_in (s : State) (c comp : ClassId) (N M : Nat) (dv : Value) : ∀ i j, j < i → (ma_s s c comp N M dv i).heap[s.heap.size + 1 + j]? = some (arrV comp M (fun _ => dv))
  | 0, _, h => absurd h (Nat.not_lt_zero _)
  | i + 1, j, h => by
    have f1 := (ma_f s c comp N M dv i).1
    show (((ma_s s c comp N M dv i).pushCell (arrV comp M (fun _ => dv))).setCell s.heap.size _).heap[s.heap.size + 1 + j]? = _
    rw [heapAt_setCell_ne _ (show s.heap.size ≠ s.heap.size + 1 + j by omega)]
    by_cases hj : j < i
    · have hlt : s.heap.size + 1 + j < (ma_s s c comp N M dv i).heap.size := by omega
      rw [State.heap_pushCell_of_lt (h := hlt)]
      exact ma_in s c comp N M dv i j hj
    · rw [show s.heap.size + 1 + j = (ma_s s c comp N M dv i).heap.size by omega]
      exact State.heap_pushCell_size _ _
section MA
variable {E : CtlPost} {e : Env} {d : Bool} {acts : List Action} {s : State}
theorem ma_wp1 {comp cc : ClassId} {kc : Class} {type : FieldType} {m : Int32} (hkc : s.vm.classes[comp]? = some kc) (hkindc : kc.kind = .array cc type) (hm : ¬ m < 0) (hl : ¬ m.toNatClampNeg > e.platform.arrayLengthLimit) (hh : ¬ m.toNatClampNeg * componentBytes type > e.platform.maxHeapBytes) (hdf : fits type (defaultValue type) = true)
    (h1 : s.heap.size < e.platform.maxCells) (h2 : s.slotsUsed + m.toNatClampNeg ≤ e.platform.maxSlots) {Q : Addr → Pre} (hq : ∀ acts', Q s.heap.size d acts' (s.pushCell (arrV comp m.toNatClampNeg (fun _ => defaultValue type)))) : wp (multianewarray.make comp [m]) Q E e d acts s := by
  rw [multianewarray.make]
  simp only [wp_bind', Jvm.W.ite, hm, if_false, wp_pure', Jvm.W.theClass, hkc, hkindc, Option.some.injEq, exists_eq_left']
  refine W.newArray_of hkc hkindc hl hh h1 h2 hdf (fun acts' => ?_)
  have h := hq acts'
  rw [← arrV_new] at h
  exact h
theorem ma_wp2 {c comp cc : ClassId} {k kc : Class} {t0 type : FieldType} {n m : Int32} (hk : s.vm.classes[c]? = some k) (hkind : k.kind = .array comp (.array t0)) (hkc : s.vm.classes[comp]? = some kc) (hkindc : kc.kind = .array cc type) (hn : ¬ n < 0) (hm : ¬ m < 0)
    (hl1 : ¬ n.toNatClampNeg > e.platform.arrayLengthLimit) (hh1 : ¬ n.toNatClampNeg * componentBytes (.array t0) > e.platform.maxHeapBytes) (hl2 : ¬ m.toNatClampNeg > e.platform.arrayLengthLimit) (hh2 : ¬ m.toNatClampNeg * componentBytes type > e.platform.maxHeapBytes) (hdf : fits type (defaultValue type) = true)
    (hc : s.heap.size + 1 + n.toNatClampNeg ≤ e.platform.maxCells) (hs : s.slotsUsed + n.toNatClampNeg + n.toNatClampNeg * m.toNatClampNeg ≤ e.platform.maxSlots)
    {Q : Addr → Pre} (hq : ∀ d' acts', Q s.heap.size d' acts' (ma_s s c comp n.toNatClampNeg m.toNatClampNeg (defaultValue type) n.toNatClampNeg)) : wp (multianewarray.make c [n, m]) Q E e d acts s := by
  have hnone : ([m].find? (· < 0)) = none := by simp [hm]
  have hmz := Nat.zero_le (n.toNatClampNeg * m.toNatClampNeg)
  rw [multianewarray.make]
  simp only [wp_bind', Jvm.W.ite, hn, if_false, wp_pure', Jvm.W.theClass, hk, hkind, Option.some.injEq, exists_eq_left']
  refine W.newArray_of hk hkind hl1 hh1 (by omega) (by omega) rfl (fun acts' => ?_)
  simp only [hnone]
  rw [ite_self, wp_bind', Std.Legacy.Range.forIn_eq_forIn_range']
  rw [show ([:n.toNatClampNeg] : Std.Legacy.Range).size = n.toNatClampNeg by simp [Std.Legacy.Range.size]]
  have hs0 : s.pushCell { cls := c, slots := Array.replicate n.toNatClampNeg .null } = ma_s s c comp n.toNatClampNeg m.toNatClampNeg (defaultValue type) 0 := by
    show _ = s.pushCell (ma_o c n.toNatClampNeg s.heap.size 0)
    rw [show ma_o c n.toNatClampNeg s.heap.size 0 = arrV c n.toNatClampNeg (fun _ => .null) from arrV_cg (fun j _ => if_neg (Nat.not_lt_zero j)), ← arrV_new]
  rw [hs0]
  show wp (forIn (List.range' 0 n.toNatClampNeg 1) PUnit.unit _) _ E e d _ _
  refine wp_forIn_inv (fun rest s' => ∃ i, i ≤ n.toNatClampNeg ∧ rest = List.range' i (n.toNatClampNeg - i) ∧ s' = ma_s s c comp n.toNatClampNeg m.toNatClampNeg (defaultValue type) i) _ _ ⟨0, Nat.zero_le _, rfl, rfl⟩ ?_ ?_
  · rintro x rest s' d' acts' Q' ⟨i, hi, hl, rfl⟩ hnext
    have hlt : i < n.toNatClampNeg := by
      rcases Nat.lt_or_ge i n.toNatClampNeg with h | h
      · exact h
      · rw [show n.toNatClampNeg - i = 0 by omega] at hl
        cases hl
    rw [show n.toNatClampNeg - i = (n.toNatClampNeg - (i + 1)) + 1 by omega, List.range'_succ] at hl
    obtain ⟨rfl, hrest⟩ := List.cons.inj hl
    obtain ⟨f1, f2, f3, f4⟩ := ma_f s c comp n.toNatClampNeg m.toNatClampNeg (defaultValue type) x
    have hmul : x * m.toNatClampNeg + m.toNatClampNeg ≤ n.toNatClampNeg * m.toNatClampNeg := by
      have := Nat.mul_le_mul_right m.toNatClampNeg (show x + 1 ≤ n.toNatClampNeg from hlt)
      rw [Nat.succ_mul] at this
      exact this
    have hlt0 : s.heap.size < (ma_s s c comp n.toNatClampNeg m.toNatClampNeg (defaultValue type) x).heap.size := by omega
    simp only [wp_bind']
    refine ma_wp1 (by rw [f3]; exact hkc) hkindc hm hl2 hh2 hdf (by omega) (by omega) (fun acts2 => ?_)
    simp only [wp_bind', Jvm.W.writeLoc, wp_pure']
    refine ⟨ma_o c n.toNatClampNeg s.heap.size x, by rw [State.heap_pushCell_of_lt (h := hlt0)]; exact f2, (fun h => by cases h), by rw [show (ma_o c n.toNatClampNeg s.heap.size x).slots.size = n.toNatClampNeg from arrV_size _ _ _]; exact hlt, ?_, hnext _ _ _ ⟨x + 1, hlt, hrest, ?_⟩⟩
    · show State.fitsSlot _ c .none x _ = true
      simp [State.fitsSlot, State.slotType?, f3, hk, hkind, fits]
    · rw [f1, ma_next]
      rfl
  · rintro s' d' acts' ⟨i, hi, hl, rfl⟩
    have hiN : i = n.toNatClampNeg := by
      rcases Nat.lt_or_ge i n.toNatClampNeg with h | h
      · rw [show n.toNatClampNeg - i = (n.toNatClampNeg - (i + 1)) + 1 by omega, List.range'_succ] at hl
        cases hl
      · omega
    subst hiN
    simp only [wp_pure']
    exact hq _ _
end MA
section MB
variable {p : Program} {l : Launch} {e : Env} {R : Room} {s : State} {m : MethodId} {args : Array Value} {below : List Frame} {meth : Method} {c : Code} {T : State} {H : Heap} {locs : List Loc} {cells slots : Nat} {Q : State → Prop}
theorem ma_stand (X : Stand p l e R s m args below meth c T locs cells slots) (cA comp : ClassId) (N M : Nat) (dv : Value) : ∀ i, Stand p l e R s m args below meth c (ma_s T cA comp N M dv i) locs (cells + 1 + i) (slots + N + i * M)
  | 0 => by
    have h := X.pushed (ma_o cA N T.heap.size 0)
    rw [show (ma_o cA N T.heap.size 0).slots.size = N from arrV_size _ _ _] at h
    rw [show slots + N + 0 * M = slots + N by omega]
    exact h
  | i + 1 => by
    have Xi := ma_stand X cA comp N M dv i
    obtain ⟨f1, f2, f3, f4⟩ := ma_f T cA comp N M dv i
    have hlt0 : T.heap.size < (ma_s T cA comp N M dv i).heap.size := by omega
    have hcell : ((ma_s T cA comp N M dv i).pushCell (arrV comp M (fun _ => dv))).heap[T.heap.size]? = some (ma_o cA N T.heap.size i) := by rw [State.heap_pushCell_of_lt (h := hlt0)]; exact f2
    have h := (Xi.pushed (arrV comp M (fun _ => dv))).stored hcell i (.ref (T.heap.size + 1 + i))
    rw [arrV_size, ma_next] at h
    rw [show slots + N + (i + 1) * M = slots + N + i * M + M by rw [Nat.succ_mul]; omega]
    refine Stand.forget (extra := [⟨T.heap.size, i⟩]) h (fun y hy => ?_)
    rw [List.mem_singleton.mp hy]
    exact X.heapGrown
theorem w_multi {cc : ByteArray} (hexec : p.tables.exec = Jvm.exec) (hb : c.code = cc) {own : String} {index : Nat} {ty : FieldType} (hown : s.vm.findClass own = some m.cls) (hclink : (Cond.classLink own index ("[" ++ (FieldType.array ty).toString)).before args s = true)
    {cA comp c0 : ClassId} {kA kC : Class} (hfA : s.vm.findClass ("[" ++ (FieldType.array ty).toString) = some cA) (hkA : s.vm.classes[cA]? = some kA) (hkindA : kA.kind = .array comp (.array ty)) (hkC : s.vm.classes[comp]? = some kC) (hkindC : kC.kind = .array c0 ty)
    {g : JFrame} (hg : g.method = m) (hdg : decode cc g.pc = .ok (.multianewarray index 2, 4)) {n k : Int32} {N M : Nat} {rest : List Value} (hstack : g.stack = .int k :: .int n :: rest) (hn : ¬ n < 0) (hk : ¬ k < 0) (hN : n.toNatClampNeg = N) (hM : k.toNatClampNeg = M)
    (hb1 : N * 4 ≤ 536870912) (hb2 : M * componentBytes ty ≤ 536870912) (hb3 : M ≤ 536870912) (hdf : fits ty (defaultValue ty) = true) (hcells : cells + (1 + N) ≤ R.cells) (hslots : slots + (N + N * M) ≤ R.slots)
    (kk : ∀ H' : Heap, H'.size = H.size + 1 + N → (∀ q, q < H.size → H'[q]? = H[q]?) → H'[H.size]? = some (arrV cA N (fun j => .ref (H.size + 1 + j))) → (∀ j, j < N → H'[H.size + 1 + j]? = some (arrV comp M (fun _ => defaultValue ty))) →
      W p l e R s m args below meth c H' locs (cells + 1 + N) (slots + N + N * M) Q { g with pc := g.pc + 4, stack := .ref H.size :: rest }) : W p l e R s m args below meth c H locs cells slots Q g := by
  intro T hT X
  subst hg; subst hb; subst hN; subst hM; subst hT
  have hpl : e.platform.magicAccessors = ({} : Platform).magicAccessors := by rw [X.admits.platform]
  obtain ⟨c1, hfc1, hcl⟩ := Cond.classLink_spec hown hclink e.platform hpl
  cases hfA.symm.trans hfc1
  obtain ⟨hg₁, hwarm₁, hready₁⟩ := State.classEntry (e := e) X.warmed hcl
  generalize T.vm.noted g.method.cls index (.cls cA) = vm₁ at hg₁ hwarm₁ hready₁
  have hal : s.vm.Alike vm₁ := hwarm₁.alike
  obtain ⟨kA₁, hkA₁, heA⟩ := hal.2.2 _ _ hkA
  obtain ⟨kC₁, hkC₁, heC⟩ := hal.2.2 _ _ hkC
  have hkindA₁ : kA₁.kind = .array comp (.array ty) := by rw [heA]; exact hkindA
  have hkindC₁ : kC₁.kind = .array c0 ty := by rw [heC]; exact hkindC
  have X₁ := X.noted hwarm₁
  obtain ⟨hr1, hr2⟩ := X.roomAbove hcells hslots
  have XF := ma_stand X₁ cA comp n.toNatClampNeg k.toNatClampNeg (defaultValue ty) n.toNatClampNeg
  obtain ⟨f1, f2, -, -⟩ := ma_f (T.setVm vm₁) cA comp n.toNatClampNeg k.toNatClampNeg (defaultValue ty) n.toNatClampNeg
  obtain ⟨t, a1, b1⟩ := kk _ f1 (fun q hq => ma_old (T.setVm vm₁) cA comp _ _ _ hq _) (f2.trans (congrArg some (arrV_cg (fun j hj => if_pos hj)))) (fun j hj => ma_in (T.setVm vm₁) cA comp _ _ _ _ j hj) _ rfl XF
  refine ⟨t, ?_, b1⟩
  have hl1 : ¬ n.toNatClampNeg > e.platform.arrayLengthLimit := by rw [Launch.admits_arrayLengthLimit X.admits]; omega
  have hh1 : ¬ n.toNatClampNeg * componentBytes (.array ty) > e.platform.maxHeapBytes := by
    rw [Launch.admits_maxHeapBytes X.admits]; show ¬ n.toNatClampNeg * 4 > 536870912; omega
  have hl2 : ¬ k.toNatClampNeg > e.platform.arrayLengthLimit := by rw [Launch.admits_arrayLengthLimit X.admits]; omega
  have hh2 : ¬ k.toNatClampNeg * componentBytes ty > e.platform.maxHeapBytes := by rw [Launch.admits_maxHeapBytes X.admits]; omega
  jvm_step X.here [hexec, hdg]
  simp only [multianewarray.sem, wp_bind', Jvm.W.resolveClassAt_links (State.method?_setTop g X.here.top) hg₁]
  rw [Jvm.W.popN, if_neg (by decide)]
  refine ⟨g, State.topJava?_setTop' (s := T.setVm vm₁) g X.here.top, [.int n, .int k], rest, rfl, hstack, ?_⟩
  simp only [List.mapM_cons, List.mapM_nil, wp_bind', wp_pure']
  refine ma_wp2 (k := kA₁) (kc := kC₁) (comp := comp) (cc := c0) (t0 := ty) (type := ty) hkA₁ hkindA₁ hkC₁ hkindC₁ hn hk hl1 hh1 hl2 hh2 hdf (by show T.heap.size + 1 + _ ≤ _; omega) (by show T.slotsUsed + _ + _ ≤ _; omega) (fun d' acts' => ?_)
  have eS : ((T.setTop g).setVm vm₁).setTop { g with stack := rest } = (T.setVm vm₁).setTop { g with stack := rest } := by
    show ((T.setVm vm₁).setTop g).setTop _ = _
    rw [State.setTop_setTop]
  rw [eS, ma_top]
  simp only [wp_bind', Jvm.W.mark, Jvm.W.pushRef, State.topJava?_setTop' _ XF.here.top, Option.some.injEq, exists_eq_left', State.setTop_setTop, State.heap_setTop]
  intro acts
  simp [jvm, XF.here.top]
  exact a1
end MB
