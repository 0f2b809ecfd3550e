/-! own text: a logic of whole states over the kit's W. A state is numbers (N k i j: family, member, place) and a shape g; every cell of the class, of the reference and of the law is in it, so no frame is ever cut. -/
abbrev Nm : Type := Nat → Nat → Nat → Int
/-- the launch, where the new cells begin, the classes' numbers and slots, the array classes -/
abbrev Kx : Type := Launch × Nat × va_G × (Nat → ClassId)
def TW : List Cond := lw_tbl.filter goodWord
theorem tw_of {w : Cond} (h : w ∈ lw_tbl) (hg : goodWord w = true) : w ∈ TW := List.mem_filter.mpr ⟨h, hg⟩
theorem tw_t {w : Cond} (i : Nat) (h : tables_1[i]? = some w) (hg : goodWord w = true) : w ∈ TW := tw_of (List.mem_append_right _ (List.mem_of_getElem? h)) hg
theorem tw_s {w : Cond} (i : Nat) (h : (k2_sels lw_privs)[i]? = some w) (hg : goodWord w = true) : w ∈ TW := tw_of (List.mem_append_left _ (List.mem_of_getElem? h)) hg
theorem tw_ps (ws : List Cond) (ps : List Nat) (hp : ws = ps.filterMap (fun i => tables_1[i]?)) (h : ws.all goodWord = true) : ∀ w ∈ ws, w ∈ TW := by
  intro w hw
  have h1 := List.all_eq_true.mp h w hw
  rw [hp] at hw
  obtain ⟨i, -, hi⟩ := List.mem_filterMap.mp hw
  exact tw_t i hi h1
theorem tw_good {w : Cond} (h : w ∈ TW) : goodWord w = true := (List.mem_filter.mp h).2
theorem tw_tbl {w : Cond} (h : w ∈ TW) : w ∈ lw_tbl := (List.mem_filter.mp h).1
/-! values -/
abbrev AV : Type := Int ⊕ (Int ⊕ ((Nat × Nat) ⊕ (UInt64 ⊕ UInt32)))
abbrev vi (z : Int) : AV := .inl z
abbrev vl (z : Int) : AV := .inr (.inl z)
abbrev vr (k i : Nat) : AV := .inr (.inr (.inl (k, i)))
abbrev vd (x : UInt64) : AV := .inr (.inr (.inr (.inl x)))
abbrev vf (x : UInt32) : AV := .inr (.inr (.inr (.inr x)))
def cv (ad : Nat → Nat → Nat) (v : AV) : Value := match v with
  | .inl z => .int (Int32.ofInt z)
  | .inr (.inl z) => .long (Int64.ofInt z)
  | .inr (.inr (.inl q)) => .ref (ad q.1 q.2)
  | .inr (.inr (.inr (.inl x))) => .double x
  | .inr (.inr (.inr (.inr x))) => .float x
def cat (v : AV) : Nat := match v with
  | .inl _ => 1
  | .inr (.inl _) => 2
  | .inr (.inr (.inl _)) => 1
  | .inr (.inr (.inr (.inl _))) => 2
  | .inr (.inr (.inr (.inr _))) => 1
theorem cv_cat (ad : Nat → Nat → Nat) (v : AV) : (cv ad v).category = cat v := by
  rcases v with z | z | q | x | x <;> rfl
def okv (v : AV) : Prop := match v with
  | .inr (.inr (.inl q)) => q.2 < cnt q.1
  | _ => True
def oks (st : List AV) : Prop := ∀ v ∈ st, okv v
def okl (ls : List (Option AV)) : Prop := ∀ v, some v ∈ ls → okv v
def nmo (v : AV) : Bool := match v with
  | .inr (.inr (.inl q)) => !mov q.1
  | _ => true
def nml (v : Option AV) : Bool := match v with
  | none => true
  | some w => nmo w
theorem oks_nil : oks [] := fun _ h => absurd h List.not_mem_nil
theorem oks_cons {v : AV} {st : List AV} (h1 : okv v) (h2 : oks st) : oks (v :: st) := fun w hw => (List.mem_cons.mp hw).elim (fun e => by rw [e]; exact h1) (h2 w)
theorem oks_hd {v : AV} {st : List AV} (h : oks (v :: st)) : okv v := h v List.mem_cons_self
theorem oks_tl {v : AV} {st : List AV} (h : oks (v :: st)) : oks st := fun w hw => h w (List.mem_cons_of_mem _ hw)
def lvs (ad : Nat → Nat → Nat) : Nat → List (Option AV) → List (Nat × Value)
  | _, [] => []
  | n, none :: t => lvs ad (n + 1) t
  | n, some v :: t => (n, cv ad v) :: lvs ad (n + 1) t
theorem lvs_in (ad : Nat → Nat → Nat) : ∀ (ls : List (Option AV)) (n : Nat) (q : Nat × Value), q ∈ lvs ad n ls ↔ ∃ i v, ls[i]? = some (some v) ∧ q = (n + i, cv ad v)
  | [], n, q => by simp [lvs]
  | none :: t, n, q => by
    rw [lvs, lvs_in ad t (n + 1) q]
    constructor
    · rintro ⟨i, v, h, rfl⟩
      exact ⟨i + 1, v, h, by rw [Nat.add_assoc, Nat.add_comm 1 i]⟩
    · rintro ⟨i, v, h, rfl⟩
      cases i with
      | zero => simp at h
      | succ i => exact ⟨i, v, h, by rw [Nat.add_assoc, Nat.add_comm 1 i]⟩
  | some w :: t, n, q => by
    rw [lvs, List.mem_cons, lvs_in ad t (n + 1) q]
    constructor
    · rintro (rfl | ⟨i, v, h, rfl⟩)
      · exact ⟨0, w, rfl, rfl⟩
      · exact ⟨i + 1, v, h, by rw [Nat.add_assoc, Nat.add_comm 1 i]⟩
    · rintro ⟨i, v, h, rfl⟩
      cases i with
      | zero =>
        left
        simp at h
        rw [h]
        rfl
      | succ i => exact Or.inr ⟨i, v, h, by rw [Nat.add_assoc, Nat.add_comm 1 i]⟩
theorem lvs_at {ad : Nat → Nat → Nat} {ls : List (Option AV)} {L : Array Slot} {nL i : Nat} {v : AV} (h : lv_has L nL (lvs ad 0 ls)) (hi : ls[i]? = some (some v)) : L[i]? = some (.val (cv ad v)) := by
  have := h.2.2 (0 + i, cv ad v) ((lvs_in ad ls 0 _).mpr ⟨i, v, hi, rfl⟩)
  simpa using this
/-! cells -/
def fv (g : Ge) (N : Nm) (ad : Nat → Nat → Nat) (c k i j : Nat) : Value := match cty c j with
  | .int => .int (Int32.ofInt (N k i j))
  | .boolean => .int (Int32.ofInt (N k i j))
  | .long => .long (Int64.ofInt (N k i j))
  | _ => .ref (ad (rf g k i j).1 (rf g k i j).2)
/-- the script's cell: an array of ints, made by others -/
def scr (H : Heap) (a : Nat) (cS : ClassId) (n : Nat) (f : Nat → Value) : Prop := ∃ cell : Cell, H[a]? = some cell ∧ cell.cls = cS ∧ cell.vm ≠ .unknown ∧ (∀ k, cell.vm ≠ .statics k) ∧ cell.slots.size = n ∧ ∀ j, j < n → cell.slots[j]? = some (f j)
theorem scr.to {H H' : Heap} {a a' n : Nat} {cS : ClassId} {f : Nat → Value} (h : scr H a cS n f) (hq : H'[a']? = H[a]?) : scr H' a' cS n f := by
  obtain ⟨cell, h1, h2⟩ := h
  exact ⟨cell, hq.trans h1, h2⟩
theorem scr.lt {H : Heap} {a n : Nat} {cS : ClassId} {f : Nat → Value} (h : scr H a cS n f) : a < H.size := by
  obtain ⟨cell, h1, -⟩ := h
  exact (Array.getElem?_eq_some_iff.mp h1).1
def hcell (K : Kx) (g : Ge) (N : Nm) (ad : Nat → Nat → Nat) (k i : Nat) (H : Heap) : Prop := match kd k with
  | (0, c) => ∃ q : vw_C, clsL[c]? = some q ∧ t_OB (ad k i) (K.2.2.1.1 c) q.2.2 (K.2.2.1.2 c) H (fun j => fv g N ad c k i j)
  | (1, c) => H[ad k i]? = some (arrV (K.2.2.2 c) (ln g k i) (fun j => .int (Int32.ofInt (N k i j))))
  | (2, c) => H[ad k i]? = some (arrV (K.2.2.2 c) (ln g k i) (fun j => .long (Int64.ofInt (N k i j))))
  | (3, c) => H[ad k i]? = some (arrV (K.2.2.2 c) (ln g k i) (fun j => .ref (ad (rf g k i j).1 (rf g k i j).2)))
  | (5, _) => scr H (ad k i) (K.2.2.2 5) (N 61 1 0).toNat (fun j => .int (Int32.ofInt (N k i j)))
  | _ => False
/-- where cells of a family may lie: the script (61, its length is the number at 61 1 0) lies anywhere, all others in the new part -/
def bs (K : Kx) (k : Nat) : Nat := if k = 61 then 0 else K.2.1
theorem bs_ne {K : Kx} {k : Nat} (h : k ≠ 61) : bs K k = K.2.1 := if_neg h
def Hold (K : Kx) (g : Ge) (N : Nm) (ad : Nat → Nat → Nat) (H : Heap) : Prop :=
  (g.1 < 2 ∧ g.2.1 < 2) ∧ (∀ k i, i < cnt k → bs K k ≤ ad k i ∧ hcell K g N ad k i H) ∧ ∀ k i k' i', i < cnt k → i' < cnt k' → ad k i = ad k' i' → k = k' ∧ i = i'
abbrev tysK (K : Kx) : List (ClassId × FieldType) := [(K.2.2.2 0, .int), (K.2.2.2 1, .long), (K.2.2.2 2, .object "PayPromise$Line"), (K.2.2.2 3, .array .int), (K.2.2.2 4, .array .long)]
def KK (K : Kx) (s : State) : Prop := va_K K.2.2.1 clsL (tysK K) s
theorem KK.moved {K : Kx} {u U : State} (hvm : u.vm.Alike U.vm) (h : KK K u) : KK K U := va_K.moved hvm h
def upN (N : Nm) (k i j : Nat) (v : Int) : Nm := fun k' i' j' => if k' = k ∧ i' = i ∧ j' = j then v else N k' i' j'
theorem upN_eq (N : Nm) (k i j : Nat) (v : Int) : upN N k i j v k i j = v := if_pos ⟨rfl, rfl, rfl⟩
theorem upN_k {N : Nm} {k i j k' i' j' : Nat} {v : Int} (h : k' ≠ k) : upN N k i j v k' i' j' = N k' i' j' := if_neg (fun q => h q.1)
theorem upN_i {N : Nm} {k i j k' i' j' : Nat} {v : Int} (h : i' ≠ i) : upN N k i j v k' i' j' = N k' i' j' := if_neg (fun q => h q.2.1)
theorem upN_j {N : Nm} {k i j k' i' j' : Nat} {v : Int} (h : j' ≠ j) : upN N k i j v k' i' j' = N k' i' j' := if_neg (fun q => h q.2.2)
theorem hcell_at {K : Kx} {g : Ge} {N N' : Nm} {ad : Nat → Nat → Nat} {k i : Nat} {H H' : Heap} (h : hcell K g N ad k i H) (hq : H'[ad k i]? = H[ad k i]?) (hN : ∀ j, N' k i j = N k i j) (h61 : N' 61 1 0 = N 61 1 0) : hcell K g N' ad k i H' := by
  unfold hcell at h ⊢
  split at h
  · obtain ⟨q, h1, h2⟩ := h
    refine ⟨q, h1, (h2.kept hq).to (fun j _ => ?_)⟩
    simp only [fv, hN]
  · simp only [hN, hq]; exact h
  · simp only [hN, hq]; exact h
  · rw [hq]; exact h
  · simp only [hN, h61]; exact h.to hq
  · exact h
theorem Hold.upd {K : Kx} {g : Ge} {N : Nm} {ad : Nat → Nat → Nat} {k i j : Nat} {v : Int} {H H' : Heap} (h : Hold K g N ad H) (hi : i < cnt k) (hs : hcell K g (upN N k i j v) ad k i H') (ho : ∀ q, q ≠ ad k i → H'[q]? = H[q]?) : Hold K g (upN N k i j v) ad H' := by
  refine ⟨h.1, fun k' i' hi' => ⟨(h.2.1 k' i' hi').1, ?_⟩, h.2.2⟩
  by_cases e : k' = k ∧ i' = i
  · obtain ⟨rfl, rfl⟩ := e
    exact hs
  · refine hcell_at (h.2.1 k' i' hi').2 (ho _ (fun q => e (h.2.2 k' i' k i hi' hi q))) (fun j' => if_neg (fun q => e ⟨q.1, q.2.1⟩)) (if_neg (fun q => by rw [← q.1, ← q.2.1] at hi; exact absurd hi (by decide)))
def pot (g : Ge) : Nat := (16384 - g.2.2 0) + (16384 - g.2.2 1) + (16384 - g.2.2 2) + (16384 - g.2.2 3) + (16384 - g.2.2 4) + (16384 - g.2.2 5) + (16384 - g.2.2 6) + (16384 - g.2.2 7)
/-- what may still be made: the rooms of lines, and the exceptions that may still come (their number stands at 99 0 0, no cell) -/
def pot2 (N : Nm) (g : Ge) : Nat := pot g + (N 99 0 0).toNat
theorem pot2_up {N : Nm} {g : Ge} {k i j : Nat} {v : Int} (hi : i < cnt k) : pot2 (upN N k i j v) g = pot2 N g := by
  unfold pot2
  rw [upN_k (fun e => by rw [← e] at hi; exact absurd hi (Nat.not_lt_zero i))]
def Agr (ad0 ad : Nat → Nat → Nat) : Prop := ∀ k i, i < cnt k → mov k = false → ad k i = ad0 k i
theorem Agr.rf (ad : Nat → Nat → Nat) : Agr ad ad := fun _ _ _ _ => rfl
theorem Agr.tr {a b c : Nat → Nat → Nat} (h1 : Agr a b) (h2 : Agr b c) : Agr a c := fun k i hi hm => (h2 k i hi hm).trans (h1 k i hi hm)
theorem cv_agr {a b : Nat → Nat → Nat} (h : Agr a b) {v : AV} (ho : okv v) (hm : nmo v = true) : cv b v = cv a v := by
  rcases v with z | z | ⟨k, i⟩ | x | x
  · rfl
  · rfl
  · show Value.ref (b k i) = Value.ref (a k i)
    have : mov k = false := by simpa [nmo] using hm
    rw [h k i ho this]
  · rfl
  · rfl
theorem map_agr {a b : Nat → Nat → Nat} (h : Agr a b) : ∀ {st : List AV}, oks st → st.all nmo = true → st.map (cv b) = st.map (cv a)
  | [], _, _ => rfl
  | v :: st, ho, hm => by
    simp only [List.all_cons, Bool.and_eq_true] at hm
    rw [List.map_cons, List.map_cons, cv_agr h (oks_hd ho) hm.1, map_agr h (oks_tl ho) hm.2]
theorem lvs_agr {a b : Nat → Nat → Nat} (h : Agr a b) : ∀ {ls : List (Option AV)} (n : Nat), okl ls → ls.all nml = true → lvs b n ls = lvs a n ls
  | [], _, _, _ => rfl
  | none :: t, n, ho, hm => by
    simp only [List.all_cons, Bool.and_eq_true] at hm
    rw [lvs, lvs, lvs_agr h (n + 1) (fun v hv => ho v (List.mem_cons_of_mem _ hv)) hm.2]
  | some v :: t, n, ho, hm => by
    simp only [List.all_cons, Bool.and_eq_true] at hm
    rw [lvs, lvs, lvs_agr h (n + 1) (fun v hv => ho v (List.mem_cons_of_mem _ hv)) hm.2, cv_agr h (ho v List.mem_cons_self) hm.1]
/-! the end of a method, a method, a place of a walk -/
abbrev Qt : Type := Option AV → Nm → Ge → Prop
def okr (r : Option AV) : Prop := ∀ v, r = some v → okv v
def QK (K : Kx) (Q : Qt) (ad0 : Nat → Nat → Nat) (g0 : Nat) (st : State) (o : Outcome) (t : State) (k n : Nat) : Prop :=
  ∃ (r : Option AV) (N' : Nm) (g' : Ge) (ad' : Nat → Nat → Nat), o = .returned (r.map (cv ad')) ∧ Q r N' g' ∧ Hold K g' N' ad' t.heap ∧ Agr ad0 ad' ∧ okr r ∧ st.heap.size ≤ t.heap.size ∧ (∀ q, q < K.2.1 → t.heap[q]? = st.heap[q]?) ∧ k + pot2 N' g' ≤ g0 ∧ n + 6 * pot2 N' g' ≤ 6 * g0
abbrev xN : String := "java/util/NoSuchElementException"
theorem wd_decl {u U : State} {A A' : Array Value} {y : MethodName} (hvm : u.vm.Alike U.vm) (h : (Cond.declares y).before A u = true) : (Cond.declares y).before A' U = true := by
  have e : (Cond.declares y).before A' (U.setVm U.vm) = (Cond.declares y).before A (u.setVm U.vm) := Cond.onTables_vm U.vm (.declares y) rfl
  rw [show U = U.setVm U.vm from rfl, e]
  exact (Cond.declares_setVm hvm y).trans h
theorem wd_cast {u U : State} {A A' : Array Value} {a b : String} (hvm : u.vm.Alike U.vm) (h : (Cond.castable a b).before A u = true) : (Cond.castable a b).before A' U = true := by
  obtain ⟨x, y, h1, h2, h3⟩ := Cond.castable_spec h
  have e1 : U.vm.findClass a = some x := by rw [hvm.findClass]; exact h1
  have e2 : U.vm.findClass b = some y := by rw [hvm.findClass]; exact h2
  have e3 : U.vm.assignable x y = true := by rw [hvm.assignable]; exact h3
  simp only [Cond.before, Cond.holds, Cond.value, e1, e2, e3]
  rfl
/-- what a throw needs: Throwable's two static fields, the text, no traces, words of the exception's classes -/
def ZK (K : Kx) (U : State) (H : Heap) : Prop := vx_Zq Bundle.tN "UNASSIGNED_STACK" Bundle.steD (fun q => K.2.1 ≤ q) U H ∧ vx_Zq Bundle.tN "SUPPRESSED_SENTINEL" Bundle.listD (fun q => K.2.1 ≤ q) U H ∧ (∃ sa, vk_R RX9 117 "no such account, or nothing of it by this number" sa U) ∧ K.1.stackTraces = false ∧
  (Cond.castable xN xN).before #[] U = true ∧ (Cond.declares (Bundle.initS "java/lang/RuntimeException")).before #[] U = true ∧ (Cond.declares (Bundle.initS "java/lang/Exception")).before #[] U = true ∧ (Cond.declares (Bundle.initS Bundle.tN)).before #[] U = true ∧ ∃ k : Class, U.vm.classes[K.2.2.2 5]? = some k ∧ ∃ comp, k.kind = .array comp .int
theorem ZK.moved {K : Kx} {u U : State} {H H1 : Heap} (hW : u.WarmedH U.vm) (hq : ∀ q, q < K.2.1 → H1[q]? = H[q]?) (h : ZK K u H) : ZK K U H1 := by
  obtain ⟨h1, h2, ⟨sa, h3⟩, h4, h5, h6, h7, h8, k9, a9, c9, b9⟩ := h
  obtain ⟨k9', e9, d9⟩ := hW.alike.2.2 _ _ a9
  exact ⟨vx_Zq.moved hW.alike (h1.kept (fun a _ hA => hq a (Nat.lt_of_not_le hA))), vx_Zq.moved hW.alike (h2.kept (fun a _ hA => hq a (Nat.lt_of_not_le hA))), ⟨sa, vk_R.warm hW h3⟩, h4, wd_cast hW.alike h5, wd_decl hW.alike h6, wd_decl hW.alike h7, wd_decl hW.alike h8, k9', e9, c9, by rw [d9]; exact b9⟩
def rmK (h b : Nat) : Room := { frames := h, cells := b, slots := 6 * b, locals := 64 * h }
def CkPre (K : Kx) (N : Nm) (g : Ge) (ad : Nat → Nat → Nat) (as : List AV) : Array Value → State → Prop := fun a U => a = (as.map (cv ad)).toArray ∧ KK K U ∧ Hold K g N ad U.heap ∧ K.2.1 ≤ U.heap.size ∧ ZK K U U.heap
def CkP0 (K : Kx) (Q : Qt) (g : Nat) (ad : Nat → Nat → Nat) : Array Value → State → Outcome → State → Prop := fun _ st o t => ∃ (L : List Loc) (k n : Nat), FrameEnd st o t L k n ∧ (∀ q ∈ L, K.2.1 ≤ q.base) ∧ QK K Q ad g st o t k n
/-- some NaN's bits may have been drawn -/
def CkPost (K : Kx) (Q : Qt) (g : Nat) (ad : Nat → Nat → Nat) : Array Value → State → Outcome → State → Prop := fun a st o t => ∃ d : Drawn, st.drawn.sameBut d lw_cs ∧ CkP0 K Q g ad a (st.setDrawn d) o t
abbrev wsY (Y : Ys) : List Cond := .code Y.1 Y.2.1 Y.2.2.1 Y.2.2.2 :: TW
/-- a call of Y with these arguments from this state comes back with Q -/
def Ck (K : Kx) (Y : Ys) (h : Nat) (as : List AV) (N : Nm) (g : Ge) (Q : Qt) : Prop := oks as → ∀ ad : Nat → Nat → Nat, MetFree K.1 Y.1 (headSpec (wsY Y) (rmK h (pot2 N g))) (CkPre K N g ad as) (fun _ _ _ _ _ => True) (CkPost K Q (pot2 N g) ad)
def Cx (K : Kx) (Y : Ys) (h : Nat) (p : Program) (R : Room) (s : State) (m : MethodId) (args : Array Value) (meth : Method) (c : Code) (g0 : Nat) : Prop :=
  p.tables.exec = Jvm.exec ∧ c.code = Y.2.1 ∧ c.maxLocals = Y.2.2.1 ∧ s.vm.findClass Y.1.cls = some m.cls ∧ (∀ w ∈ TW, w.before args s = true) ∧ meth.locks = false ∧ meth.sig.returnType = Y.2.2.2 ∧ KK K s ∧ h ≤ R.frames ∧ 64 * h ≤ R.locals ∧ g0 ≤ R.cells ∧ 6 * g0 ≤ R.slots ∧ ZK K s s.heap
def RQ0 (K : Kx) (Q : Qt) (below : List Frame) (s : State) (ad0 : Nat → Nat → Nat) (g0 : Nat) : State → Prop := fun t =>
  ∃ o, t.status = .running ∧ Ended t below o ∧ ∃ (L : List Loc) (k n : Nat), FrameEnd s o t L k n ∧ (∀ q ∈ L, K.2.1 ≤ q.base) ∧ QK K Q ad0 g0 s o t k n
def RQ (K : Kx) (Q : Qt) (below : List Frame) (s : State) (ad0 : Nat → Nat → Nat) (g0 : Nat) : State → Prop := fun t => ∃ d : Drawn, s.drawn.sameBut d lw_cs ∧ RQ0 K Q below (s.setDrawn d) ad0 g0 t
theorem RQ.drew {K : Kx} {Q : Qt} {below : List Frame} {s t : State} {ad0 : Nat → Nat → Nat} {g0 : Nat} {d : Drawn} (hd : s.drawn.sameBut d lw_cs) (h : RQ K Q below (s.setDrawn d) ad0 g0 t) : RQ K Q below s ad0 g0 t := by
  obtain ⟨d2, h2, h3⟩ := h
  exact ⟨d2, Drawn.sameBut.trans hd h2, h3⟩
theorem Cx.drew {K : Kx} {Y : Ys} {h : Nat} {p : Program} {R : Room} {s : State} {m : MethodId} {args : Array Value} {meth : Method} {c : Code} {g0 : Nat} (C : Cx K Y h p R s m args meth c g0) (d : Drawn) : Cx K Y h p R (s.setDrawn d) m args meth c g0 :=
  ⟨C.1, C.2.1, C.2.2.1, C.2.2.2.1, dr_words C.2.2.2.2.1 d, C.2.2.2.2.2.1, C.2.2.2.2.2.2.1, KK.moved (u := s) (U := s.setDrawn d) (Vm.Alike.refl s.vm) C.2.2.2.2.2.2.2.1, C.2.2.2.2.2.2.2.2.1, C.2.2.2.2.2.2.2.2.2.1, C.2.2.2.2.2.2.2.2.2.2.1, C.2.2.2.2.2.2.2.2.2.2.2.1, ZK.moved (u := s) (U := s.setDrawn d) (H := s.heap) (State.WarmedH.refl s) (fun _ _ => rfl) C.2.2.2.2.2.2.2.2.2.2.2.2⟩
/-- what is known where a walk stands -/
def Px (K : Kx) (s : State) (ad0 : Nat → Nat → Nat) (g0 : Nat) (N : Nm) (g : Ge) (ad : Nat → Nat → Nat) (H : Heap) (locs : List Loc) (cells slots : Nat) : Prop :=
  Hold K g N ad H ∧ Agr ad0 ad ∧ (∀ z ∈ locs, K.2.1 ≤ z.base) ∧ s.heap.size ≤ H.size ∧ (∀ q, q < K.2.1 → H[q]? = s.heap[q]?) ∧ cells + pot2 N g ≤ g0 ∧ slots + 6 * pot2 N g ≤ 6 * g0 ∧ K.2.1 ≤ s.heap.size
/-- from this place of Y, with these locals and this stack, in this state: Y comes to its end with Q -/
def AW (K : Kx) (Y : Ys) (h : Nat) (Q : Qt) (pc : Nat) (ls : List (Option AV)) (st : List AV) (N : Nm) (g : Ge) : Prop :=
  ∀ (p : Program) (e : Env) (R : Room) (s : State) (m : MethodId) (args : Array Value) (below : List Frame) (meth : Method) (c : Code) (ad0 : Nat → Nat → Nat) (g0 : Nat),
    Cx K Y h p R s m args meth c g0 → ∀ (H : Heap) (locs : List Loc) (cells slots : Nat) (ad : Nat → Nat → Nat) (L : Array Slot),
      Px K s ad0 g0 N g ad H locs cells slots → lv_has L Y.2.2.1 (lvs ad 0 ls) → okl ls → oks st →
      W p K.1 e R s m args below meth c H locs cells slots (RQ K Q below s ad0 g0) (F0 m pc L (st.map (cv ad)))
theorem AW.pure {K : Kx} {Y : Ys} {h : Nat} {Q : Qt} {pc pc' : Nat} {ls ls' : List (Option AV)} {st st' : List AV} {N : Nm} {g : Ge} (kk : AW K Y h Q pc' ls' st' N g) (hok : okl ls → oks st → okl ls' ∧ oks st')
    (f : ∀ (p : Program) (l : Launch) (e : Env) (R : Room) (s : State) (m : MethodId) (args : Array Value) (below : List Frame) (meth : Method) (c : Code) (H : Heap) (locs : List Loc) (cells slots : Nat) (Qs : State → Prop) (ad : Nat → Nat → Nat) (L : Array Slot),
      p.tables.exec = Jvm.exec → c.code = Y.2.1 → s.vm.findClass Y.1.cls = some m.cls → (∀ w ∈ TW, w.before args s = true) → lv_has L Y.2.2.1 (lvs ad 0 ls) →
      (∀ L' : Array Slot, lv_has L' Y.2.2.1 (lvs ad 0 ls') → W p l e R s m args below meth c H locs cells slots Qs (F0 m pc' L' (st'.map (cv ad)))) →
      W p l e R s m args below meth c H locs cells slots Qs (F0 m pc L (st.map (cv ad)))) : AW K Y h Q pc ls st N g := by
  intro p e R s m args below meth c ad0 g0 C H locs cells slots ad L hP hL hl hs
  obtain ⟨h1, h2⟩ := hok hl hs
  exact f p K.1 e R s m args below meth c H locs cells slots _ ad L C.1 C.2.1 C.2.2.2.1 C.2.2.2.2.1 hL (fun L' hL' => kk p e R s m args below meth c ad0 g0 C H locs cells slots ad L' hP hL' h1 h2)
/-- the same numbers and places, told otherwise -/
theorem AW.eq {K : Kx} {Y : Ys} {h : Nat} {Q : Qt} {pc pc' : Nat} {ls ls' : List (Option AV)} {st st' : List AV} {N N' : Nm} {g g' : Ge} (e1 : pc = pc') (e2 : ls = ls') (e3 : st = st') (e4 : N = N') (e5 : g = g') (kk : AW K Y h Q pc' ls' st' N' g') : AW K Y h Q pc ls st N g := by
  subst e1; subst e2; subst e3; subst e4; subst e5; exact kk
theorem AW.post {K : Kx} {Y : Ys} {h : Nat} {Q Q' : Qt} {pc : Nat} {ls : List (Option AV)} {st : List AV} {N : Nm} {g : Ge} (hq : ∀ r N' g', Q r N' g' → Q' r N' g') (kk : AW K Y h Q pc ls st N g) : AW K Y h Q' pc ls st N g := by
  intro p e R s m args below meth c ad0 g0 C H locs cells slots ad L hP hL hl hs T hT X
  obtain ⟨t, a, dd, hdd, o, b1, b2, L', k, n, b3, b4, r, N', g', ad', c1, c2, c3⟩ := kk p e R s m args below meth c ad0 g0 C H locs cells slots ad L hP hL hl hs T hT X
  exact ⟨t, a, dd, hdd, o, b1, b2, L', k, n, b3, b4, r, N', g', ad', c1, hq _ _ _ c2, c3⟩
theorem Ck.post {K : Kx} {Y : Ys} {h : Nat} {as : List AV} {N : Nm} {g : Ge} {Q Q' : Qt} (hq : ∀ r N' g', Q r N' g' → Q' r N' g') (kk : Ck K Y h as N g Q) : Ck K Y h as N g Q' := by
  intro ho ad p e ha hc hk s m args below hf happ hP hK
  obtain ⟨n, o, h1, h2, h3, dd, hdd, L, k, n', b3, b4, r, N', g', ad', c1, c2, c3⟩ := kk ho ad p e ha hc hk s m args below hf happ hP hK
  exact ⟨n, o, h1, h2, h3, dd, hdd, L, k, n', b3, b4, r, N', g', ad', c1, hq _ _ _ c2, c3⟩
