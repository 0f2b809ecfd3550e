/-! own text, printed by wip/whole/gen/mk06i.py: an array of a line grows -/
/-- as hcell, with lengths of its own -/
def hcL (K : Kx) (g : Ge) (l : Nat → Nat → Nat) (N : Nm) (ad : Nat → Nat → Nat) (k i : Nat) (H : Heap) : Prop := match kd k with
  | (0, c) => ∃ q : vw_C, clsL[c]? = some q ∧ t_OB (ad k i) (K.2.2.1.1 c) q.2.2 (K.2.2.1.2 c) H (fun j => fv g N ad c k i j)
  | (1, c) => H[ad k i]? = some (arrV (K.2.2.2 c) (l k i) (fun j => .int (Int32.ofInt (N k i j))))
  | (2, c) => H[ad k i]? = some (arrV (K.2.2.2 c) (l k i) (fun j => .long (Int64.ofInt (N k i j))))
  | (3, c) => H[ad k i]? = some (arrV (K.2.2.2 c) (l k i) (fun j => .ref (ad (rf g k i j).1 (rf g k i j).2)))
  | (5, _) => scr H (ad k i) (K.2.2.2 5) (N 61 1 0).toNat (fun j => .int (Int32.ofInt (N k i j)))
  | _ => False
def HoldL (K : Kx) (g : Ge) (l : Nat → Nat → Nat) (N : Nm) (ad : Nat → Nat → Nat) (H : Heap) : Prop :=
  (g.1 < 2 ∧ g.2.1 < 2) ∧ (∀ k i, i < cnt k → bs K k ≤ ad k i ∧ hcL K g l N ad k i H) ∧ ∀ k i k' i', i < cnt k → i' < cnt k' → ad k i = ad k' i' → k = k' ∧ i = i'
theorem hold_L {K : Kx} {g : Ge} {N : Nm} {ad : Nat → Nat → Nat} {H : Heap} : Hold K g N ad H ↔ HoldL K g (ln g) N ad H := Iff.rfl
theorem rf_mov {g : Ge} {k0 i0 j k i : Nat} (h : rf g k0 i0 j = (k, i)) (hk : 13 ≤ k ∧ k ≤ 15) : k0 = 12 ∧ i0 = i ∧ k = 12 + j := by
  unfold rf at h
  split at h <;> (try split at h) <;> simp only [Prod.mk.injEq] at h <;> omega
theorem hcL_lt {K : Kx} {g : Ge} {l : Nat → Nat → Nat} {N : Nm} {ad : Nat → Nat → Nat} {k i : Nat} {H : Heap} (h : hcL K g l N ad k i H) : ad k i < H.size := by
  unfold hcL at h
  split at h
  · obtain ⟨q, -, cell, h1, -⟩ := h
    exact (Array.getElem?_eq_some_iff.mp h1).1
  · exact (Array.getElem?_eq_some_iff.mp h).1
  · exact (Array.getElem?_eq_some_iff.mp h).1
  · exact (Array.getElem?_eq_some_iff.mp h).1
  · exact h.lt
  · exact h.elim
def adG (ad : Nat → Nat → Nat) (k i a : Nat) : Nat → Nat → Nat := fun k' i' => if k' = k ∧ i' = i then a else ad k' i'
def lG (l : Nat → Nat → Nat) (k i M : Nat) : Nat → Nat → Nat := fun k' i' => if k' = k ∧ i' = i then M else l k' i'
def NG (N : Nm) (k i r : Nat) : Nm := fun k' i' j => if k' = k ∧ i' = i then (if j < r then N k i j else 0) else N k' i' j
theorem adG_ne {ad : Nat → Nat → Nat} {k i a k' i' : Nat} (h : ¬ (k' = k ∧ i' = i)) : adG ad k i a k' i' = ad k' i' := if_neg h
theorem adG_eq {ad : Nat → Nat → Nat} {k i a : Nat} : adG ad k i a k i = a := if_pos ⟨rfl, rfl⟩
theorem fvG {g : Ge} {N : Nm} {ad : Nat → Nat → Nat} {c k i a r k' i' j : Nat} (hk : 13 ≤ k ∧ k ≤ 15) (hne : ¬ (k' = k ∧ i' = i)) (hj : ¬ (k' = 12 ∧ i' = i ∧ k = 12 + j)) : fv g (NG N k i r) (adG ad k i a) c k' i' j = fv g N ad c k' i' j := by
  have e1 : NG N k i r k' i' j = N k' i' j := if_neg hne
  have e2 : adG ad k i a (rf g k' i' j).1 (rf g k' i' j).2 = ad (rf g k' i' j).1 (rf g k' i' j).2 := adG_ne (fun h => hj (rf_mov (show rf g k' i' j = (k, i) from Prod.ext h.1 h.2) hk))
  unfold fv
  rw [e1, e2]
theorem HoldL.grow {K : Kx} {g : Ge} {l : Nat → Nat → Nat} {N : Nm} {ad : Nat → Nat → Nat} {H H' : Heap} {k i jf a M : Nat} (h : HoldL K g l N ad H) (hk : 13 ≤ k ∧ k ≤ 15) (hjf : k = 12 + jf) (hi : i < 8) (ha : H.size ≤ a)
    (h1 : hcL K g (lG l k i M) (NG N k i (l k i)) (adG ad k i a) k i H') (h2 : t_OB (ad 12 i) (K.2.2.1.1 0) 8 (K.2.2.1.2 0) H' (updV (fun j => fv g N ad 0 12 i j) jf (.ref a))) (h3 : ∀ q, q < H.size → q ≠ ad 12 i → H'[q]? = H[q]?) : HoldL K g (lG l k i M) (NG N k i (l k i)) (adG ad k i a) H' := by
  have hlt : ∀ k' i', i' < cnt k' → ad k' i' < H.size := fun k' i' hc => hcL_lt (h.2.1 k' i' hc).2
  have hik : i < cnt k := by
    have : k = 13 ∨ k = 14 ∨ k = 15 := by omega
    rcases this with e | e | e <;> subst e <;> exact hi
  have h61 : k ≠ 61 := by omega
  have hbk := (h.2.1 k i hik).1
  have hb : bs K k ≤ a := Nat.le_trans hbk (Nat.le_trans (Nat.le_of_lt (hlt k i hik)) ha)
  refine ⟨h.1, fun k' i' hc => ?_, fun k1 i1 k2 i2 c1 c2 e => ?_⟩
  · by_cases e : k' = k ∧ i' = i
    · obtain ⟨rfl, rfl⟩ := e
      exact ⟨by rw [adG_eq]; exact hb, h1⟩
    · refine ⟨by rw [adG_ne e]; exact (h.2.1 k' i' hc).1, ?_⟩
      by_cases e2 : k' = 12 ∧ i' = i
      · obtain ⟨rfl, rfl⟩ := e2
        show ∃ q : vw_C, _
        refine ⟨_, rfl, ?_⟩
        rw [adG_ne e]
        refine t_OB.to h2 (fun j hj => ?_)
        by_cases ej : j = jf
        · subst ej
          have er : rf g 12 i' j = (k, i') := by
            have : k = 13 ∨ k = 14 ∨ k = 15 := by omega
            rcases this with e | e | e
            · subst e; rw [show j = 1 by omega]; rfl
            · subst e; rw [show j = 2 by omega]; rfl
            · subst e; rw [show j = 3 by omega]; rfl
          show updV _ j (.ref a) j = _
          have ev : fv g (NG N k i' (l k i')) (adG ad k i' a) 0 12 i' j = .ref (adG ad k i' a (rf g 12 i' j).1 (rf g 12 i' j).2) := by
            have : j = 1 ∨ j = 2 ∨ j = 3 := by omega
            rcases this with e | e | e <;> subst e <;> rfl
          rw [ev, er, adG_eq]
          simp [updV]
        · rw [fvG hk e (fun z => ej (by omega))]
          simp only [updV, if_neg ej]
      · have n61 : NG N k i (l k i) 61 1 0 = N 61 1 0 := if_neg (fun z => h61 z.1.symm)
        have hq : H'[adG ad k i a k' i']? = H[ad k' i']? := by
          rw [adG_ne e]
          exact h3 _ (hlt k' i' hc) (fun z => e2 (h.2.2 k' i' 12 i hc hi z))
        have hc0 := (h.2.1 k' i' hc).2
        have el : lG l k i M k' i' = l k' i' := if_neg e
        have en : ∀ j, NG N k i (l k i) k' i' j = N k' i' j := fun j => if_neg e
        unfold hcL at hc0 ⊢
        split at hc0
        · obtain ⟨q, q1, q2⟩ := hc0
          refine ⟨q, q1, ?_⟩
          rw [adG_ne e]
          refine (t_OB.kept q2 (by rw [adG_ne e] at hq; exact hq)).to (fun j _ => ?_)
          exact (fvG hk e (fun z => e2 ⟨z.1, z.2.1⟩)).symm
        · rw [hq, el]; simp only [en]; exact hc0
        · rw [hq, el]; simp only [en]; exact hc0
        · rw [hq, el, hc0]
          congr 2
          funext j
          rw [adG_ne (fun z => e2 (by have := rf_mov (show rf g k' i' j = (k, i) from Prod.ext z.1 z.2) hk; exact ⟨this.1, this.2.1⟩))]
        · rw [n61]; simp only [en]; exact hc0.to hq
        · exact hc0
  · by_cases e1 : k1 = k ∧ i1 = i
    · by_cases e2 : k2 = k ∧ i2 = i
      · exact ⟨e1.1.trans e2.1.symm, e1.2.trans e2.2.symm⟩
      · exfalso
        obtain ⟨rfl, rfl⟩ := e1
        rw [adG_eq, adG_ne e2] at e
        have := hlt k2 i2 c2
        omega
    · by_cases e2 : k2 = k ∧ i2 = i
      · exfalso
        obtain ⟨rfl, rfl⟩ := e2
        rw [adG_eq, adG_ne e1] at e
        have := hlt k1 i1 c1
        omega
      · rw [adG_ne e1, adG_ne e2] at e
        exact h.2.2 k1 i1 k2 i2 c1 c2 e
theorem kArr_i : Cond.initialized "java/util/Arrays" ∈ TW := tw_t 10 (by decide +kernel) (by decide +kernel)
set_option maxHeartbeats 4000000 in
theorem growI {K : Kx} {h : Nat} {p : Program} {e : Env} {R : Room} {s : State} {m : MethodId} {args : Array Value} {below : List Frame} {meth : Method} {c : Code} {g0 : Nat} (C : Cx K YX1_makeRoom h p R s m args meth c g0) (hh : 2 ≤ h) {g : Ge} {l : Nat → Nat → Nat} {N : Nm} {ad : Nat → Nat → Nat} {H : Heap} {locs : List Loc} {cells slots : Nat} {Q : State → Prop} {i k jf r M pc ix : Nat} {L : Array Slot} {nm : String}
    (hH : HoldL K g l N ad H) (hk : 13 ≤ k ∧ k ≤ 15) (hkd : kd k = (1, 0)) (hjf : k = 12 + jf) (hi : i < 8) (hr : l k i = r) (hrM : r < M) (hM : M ≤ 100000) (hL : lv_has L 2 [(0, .ref (ad 12 i)), (1, .int (Int32.ofInt M))]) (hR1 : cells + 1 ≤ R.cells) (hR2 : slots + M ≤ R.slots)
    (hTn : TX1 jf = (RX1, nm, "[I", false)) (hlink : Cond.fieldLink RX1 ix RX1 nm "[I" ∈ TW)
    (d0 : At YX1_makeRoom pc (.aload_n 0) 1 (pc + 1)) (d1 : At YX1_makeRoom (pc + 1) (.aload_n 0) 1 (pc + 2)) (d2 : At YX1_makeRoom (pc + 2) (.getfield ix) 3 (pc + 5)) (d3 : At YX1_makeRoom (pc + 5) (.iload_n 1) 1 (pc + 6)) (d4 : At YX1_makeRoom (pc + 6) (.invokestatic 51) 3 (pc + 9)) (d5 : At YX1_makeRoom (pc + 9) (.putfield ix) 3 (pc + 12))
    (kk : ∀ (a : Nat) (H' : Heap) (locs' : List Loc), H.size ≤ a → HoldL K g (lG l k i M) (NG N k i r) (adG ad k i a) H' → H.size ≤ H'.size → (∀ q, q < K.2.1 → H'[q]? = H[q]?) → (∀ q ∈ locs', q ∈ locs ∨ K.2.1 ≤ q.base) → W p K.1 e R s m args below meth c H' locs' (cells + 1) (slots + M) Q (F0 m (pc + 12) L [])) :
    W p K.1 e R s m args below meth c H locs cells slots Q (F0 m pc L []) := by
  have hik : i < cnt k := by
    have : k = 13 ∨ k = 14 ∨ k = 15 := by omega
    rcases this with e | e | e <;> subst e <;> exact hi
  have hjl : jf < 8 := by omega
  have hts := C.2.2.2.2.1
  have hK := C.2.2.2.2.2.2.2.1
  have h8 := C.2.2.2.2.2.2.2.2
  have hc : clsL[0]? = some (RX1, TX1, 8) := rfl
  have hob : t_OB (ad 12 i) (K.2.2.1.1 0) 8 (K.2.2.1.2 0) H (fun j => fv g N ad 0 12 i j) := by
    obtain ⟨q, q1, q2⟩ := (hH.2.1 12 i hi).2
    cases hc.symm.trans q1
    exact q2
  have hrw : H[ad k i]? = some (arrV (K.2.2.2 0) r (fun j => .int (Int32.ofInt (N k i j)))) := by
    have h1 := (hH.2.1 k i hik).2
    unfold hcL at h1
    rw [hkd] at h1
    have h1 : H[ad k i]? = some (arrV (K.2.2.2 0) (l k i) (fun j => .int (Int32.ofInt (N k i j)))) := h1
    rw [hr] at h1
    exact h1
  have hbk : K.2.1 ≤ ad k i := by
    have := (hH.2.1 k i hik).1
    rw [bs_ne (by omega)] at this
    exact this
  have hb12 : K.2.1 ≤ ad 12 i := (hH.2.1 12 i hi).1
  have hfe : fv g N ad 0 12 i jf = .ref (ad k i) := by
    have : k = 13 ∨ k = 14 ∨ k = 15 := by omega
    rcases this with e | e | e
    · subst e; rw [show jf = 1 by omega]; rfl
    · subst e; rw [show jf = 2 by omega]; rfl
    · subst e; rw [show jf = 3 by omega]; rfl
  have hap := va_apart (own := YX1_makeRoom.1.cls) hts kWX1 tyX1 tyX1_ok nmX1 hK hc
  obtain ⟨cell, q1, q2, q3, q4⟩ := id hob
  obtain ⟨hS, hfc, kC, hkC, hkind⟩ := hK.1 0 _ hc
  obtain ⟨cf, kf, fi, f, hi1, hsl⟩ := hS jf hjl
  have hT1 : (TX1 jf).1 = RX1 := by rw [hTn]
  have hlk : Cond.fieldLink YX1_makeRoom.1.cls ix RX1 (TX1 jf).2.1 (TX1 jf).2.2.1 ∈ TW := by rw [hTn]; exact hlink
  have hst := (u_facts hfc hkC (u_lays hts kWX1 hjl) hi1).1
  refine lv_aload_n C.1 C.2.1 d0.1 rfl (lv_at hL 0 rfl) ?_
  refine lv_aload_n C.1 C.2.1 d1.1 rfl (lv_at hL 0 rfl) ?_
  refine W.getf C.1 C.2.1 C.2.2.2.1 (hts _ hlk) (hT1 ▸ hi1) hst q1 (by rw [q3]; exact fun h => by cases h) (v := .ref (ad k i)) (by rw [hsl, q4 jf hjl]; exact congrArg some hfe) rfl rfl d2.1 ?_
  show W p K.1 e R s m args below meth c H locs cells slots Q (F0 m (pc + 5) L [.ref (ad k i), .ref (ad 12 i)])
  refine lv_iload_n C.1 C.2.1 d3.1 rfl (lv_at hL 1 rfl) ?_
  intro T hT X
  have hB : Back K.1 R p e below s args YJ7_copyOf_59c91.1 3 8 (PreOf R 1 M (CpIPre K (ad k i) r M (fun j => Int32.ofInt (N k i j)))) (PostOf (CpIQ K (ad k i) r M (fun j => Int32.ofInt (N k i j))) 1 M (fun q => K.2.1 ≤ q)) := by
    refine back_of (bytes := YJ7_copyOf_59c91.2.1) (maxL := YJ7_copyOf_59c91.2.2.1) (ret := YJ7_copyOf_59c91.2.2.2) (cpI hrM hM) ?_ rfl rfl (by show 1 + 1 ≤ R.frames; omega) (by show 8 + (3 + 11) + 64 ≤ R.locals; omega) ?_ List.mem_cons_self ?_
    · intro a U g' mk ⟨h1, h2, h3, h4⟩
      exact ⟨h1, KK.moved (u := U) (U := U.calling g' mk a) (Vm.Alike.refl U.vm) h2, h3, h4⟩
    · intro w hw a' U hW
      rcases List.mem_cons.mp hw with rfl | h'
      · exact tw_warm (a' := a') hts hW _ kCJ7_copyOf_59c91
      · exact tw_warm (a' := a') hts hW _ h'
    · intro a' U hW
      exact tw_warm (a' := a') hts hW _ kArr_i
  obtain ⟨v, vm₁, B, hW₁, X', hpost, stp⟩ := callS X C.1 (bytes := YJ7_copyOf_59c91.2.1) (maxL := YJ7_copyOf_59c91.2.2.1) (ret := YJ7_copyOf_59c91.2.2.2) C.2.2.2.1 (hts _ kMX1_51) (hts _ kSJ7_copyOf_59c91) (hts _ kArr_i) (hts _ kCJ7_copyOf_59c91) ⟨by decide, by decide⟩ hB (g := F0 m (pc + 6) L [.int (Int32.ofInt M), .ref (ad k i), .ref (ad 12 i)]) rfl (hL.1.trans C.2.2.1.symm) (argsL := [.ref (ad k i), .int (Int32.ofInt M)]) (rest := [.ref (ad 12 i)])
    (fun sig hsig => by
      have h2 : parseMethodDescriptor YJ7_copyOf_59c91.1.desc = some sig := hsig
      have h3 : (parseMethodDescriptor YJ7_copyOf_59c91.1.desc).map (fun d => d.parameters.length) = some 2 := by decide +kernel
      rw [h2] at h3
      exact (Option.some.inj h3).symm)
    rfl (by show 2 * 0 + 1 ≤ 8; omega) (by rw [C.2.1]; exact d4.1)
    (fun vm₁ hW₁ => ⟨hR1, hR2, rfl, KK.moved (u := s) hW₁.alike hK, by rw [State.setVm]; exact hT ▸ hrw, hbk⟩)
  obtain ⟨g', mk, t, Lc, e1, e2, hc0, hlo, hLb, hcs, hsls⟩ := hpost
  obtain ⟨st₀, hs0, c1, c2, c3, c4⟩ : ∃ st₀ : State, st₀.heap = H ∧ CpIQ K (ad k i) r M (fun j => Int32.ofInt (N k i j)) args st₀ (.returned v) t := ⟨_, hT, hc0⟩
  obtain ⟨U, lU, cU, sU⟩ := B
  dsimp only [Pt.U, Pt.locs, Pt.cells, Pt.slots] at e1 e2 hlo hcs hsls X' stp
  subst hlo
  subst hcs
  subst hsls
  rw [hs0] at c1 c2 c3 c4
  have hv : v = some (.ref H.size) := Outcome.returned.inj c1
  have c2' : U.heap[H.size]? = some (arrV (K.2.2.2 0) M (fun j => .int (if j < r then Int32.ofInt (N k i j) else 0))) := by rw [e1]; exact c2
  have c3' : H.size ≤ U.heap.size := by rw [e1]; exact c3
  have c4' : ∀ q, q < H.size → U.heap[q]? = H[q]? := fun q hq => by rw [e1]; exact c4 q hq
  have hlay := hts _ (kWX1 _ (u_in_lay hjl))
  unfold u_lay at hlay
  rw [if_neg (by rw [hTn]; exact Bool.false_ne_true)] at hlay
  have h6 := u_store hfc hkC hkind hlay hi1 (ty := .array .int) (by rw [hTn]; show parseFieldDescriptor "[I" = _; decide +kernel) (v := .ref H.size) rfl rfl
  have hqU : U.heap[ad 12 i]? = some cell := (c4' _ (Array.getElem?_eq_some_iff.mp q1).1).trans q1
  have kput : W p K.1 e R s m args below meth c U.heap (locs ++ Lc) (cells + 1) (slots + M) Q (F0 m (pc + 9) L [.ref H.size, .ref (ad 12 i)]) := by
    refine W.putK C.1 C.2.1 (f := f) ⟨C.2.2.2.1, hts _ hlk, ⟨_, _, _, hT1 ▸ hi1⟩, hst⟩ (by rw [q2]; exact h6) hqU q3 (by rw [hsl]; exact k2_hasslot (q4 jf hjl)) rfl rfl d5.1 fun H' e1' e2' e3' => ?_
    rw [hsl] at e1'
    have hne : H.size ≠ ad 12 i := by
      have := (Array.getElem?_eq_some_iff.mp q1).1
      omega
    refine kk H.size H' _ (Nat.le_refl _) ?_ (by rw [e2']; exact c3') (fun q hq => ?_) (fun q hq => ?_)
    · have hg := HoldL.grow (K := K) (g := g) (l := l) (N := N) (ad := ad) (H := H) (H' := H') (k := k) (i := i) (jf := jf) (a := H.size) (M := M) hH hk hjf hi (Nat.le_refl _) ?_ ?_ (fun q hq1 hq2 => by rw [e3' q hq2]; exact c4' q hq1)
      · rw [hr] at hg; exact hg
      · unfold hcL
        rw [hkd]
        show H'[adG ad k i H.size k i]? = some (arrV (K.2.2.2 0) (lG l k i M k i) (fun j => .int (Int32.ofInt (NG N k i (l k i) k i j))))
        rw [adG_eq, e3' _ hne, c2', show lG l k i M k i = M from if_pos ⟨rfl, rfl⟩]
        congr 2
        funext j
        have : NG N k i (l k i) k i j = if j < l k i then N k i j else 0 := if_pos ⟨rfl, rfl⟩
        rw [this, hr]
        by_cases cj : j < r
        · rw [if_pos cj, if_pos cj]
        · rw [if_neg cj, if_neg cj]; rfl
      · exact ⟨_, e1', q2, q3, t_set q4 hap hjl (.ref H.size)⟩
    · have hq2 : q ≠ ad 12 i := by omega
      have hq3 : q < H.size := by have := (Array.getElem?_eq_some_iff.mp hrw).1; omega
      rw [e3' q hq2]; exact c4' q hq3
    · rcases List.mem_append.mp hq with h1 | h1
      · rcases List.mem_append.mp h1 with h2 | h2
        · exact Or.inl h2
        · exact Or.inr (hLb q h2)
      · rw [List.mem_singleton.mp h1]; exact Or.inr hb12
  obtain ⟨t2, a2, b2⟩ := kput U rfl X'
  refine ⟨t2, stp t2 ?_, b2⟩
  rw [hv]
  exact a2
set_option maxHeartbeats 4000000 in
theorem growL {K : Kx} {h : Nat} {p : Program} {e : Env} {R : Room} {s : State} {m : MethodId} {args : Array Value} {below : List Frame} {meth : Method} {c : Code} {g0 : Nat} (C : Cx K YX1_makeRoom h p R s m args meth c g0) (hh : 2 ≤ h) {g : Ge} {l : Nat → Nat → Nat} {N : Nm} {ad : Nat → Nat → Nat} {H : Heap} {locs : List Loc} {cells slots : Nat} {Q : State → Prop} {i k jf r M pc ix : Nat} {L : Array Slot} {nm : String}
    (hH : HoldL K g l N ad H) (hk : 13 ≤ k ∧ k ≤ 15) (hkd : kd k = (2, 1)) (hjf : k = 12 + jf) (hi : i < 8) (hr : l k i = r) (hrM : r < M) (hM : M ≤ 100000) (hL : lv_has L 2 [(0, .ref (ad 12 i)), (1, .int (Int32.ofInt M))]) (hR1 : cells + 1 ≤ R.cells) (hR2 : slots + M ≤ R.slots)
    (hTn : TX1 jf = (RX1, nm, "[J", false)) (hlink : Cond.fieldLink RX1 ix RX1 nm "[J" ∈ TW)
    (d0 : At YX1_makeRoom pc (.aload_n 0) 1 (pc + 1)) (d1 : At YX1_makeRoom (pc + 1) (.aload_n 0) 1 (pc + 2)) (d2 : At YX1_makeRoom (pc + 2) (.getfield ix) 3 (pc + 5)) (d3 : At YX1_makeRoom (pc + 5) (.iload_n 1) 1 (pc + 6)) (d4 : At YX1_makeRoom (pc + 6) (.invokestatic 57) 3 (pc + 9)) (d5 : At YX1_makeRoom (pc + 9) (.putfield ix) 3 (pc + 12))
    (kk : ∀ (a : Nat) (H' : Heap) (locs' : List Loc), H.size ≤ a → HoldL K g (lG l k i M) (NG N k i r) (adG ad k i a) H' → H.size ≤ H'.size → (∀ q, q < K.2.1 → H'[q]? = H[q]?) → (∀ q ∈ locs', q ∈ locs ∨ K.2.1 ≤ q.base) → W p K.1 e R s m args below meth c H' locs' (cells + 1) (slots + M) Q (F0 m (pc + 12) L [])) :
    W p K.1 e R s m args below meth c H locs cells slots Q (F0 m pc L []) := by
  have hik : i < cnt k := by
    have : k = 13 ∨ k = 14 ∨ k = 15 := by omega
    rcases this with e | e | e <;> subst e <;> exact hi
  have hjl : jf < 8 := by omega
  have hts := C.2.2.2.2.1
  have hK := C.2.2.2.2.2.2.2.1
  have h8 := C.2.2.2.2.2.2.2.2
  have hc : clsL[0]? = some (RX1, TX1, 8) := rfl
  have hob : t_OB (ad 12 i) (K.2.2.1.1 0) 8 (K.2.2.1.2 0) H (fun j => fv g N ad 0 12 i j) := by
    obtain ⟨q, q1, q2⟩ := (hH.2.1 12 i hi).2
    cases hc.symm.trans q1
    exact q2
  have hrw : H[ad k i]? = some (arrV (K.2.2.2 1) r (fun j => .long (Int64.ofInt (N k i j)))) := by
    have h1 := (hH.2.1 k i hik).2
    unfold hcL at h1
    rw [hkd] at h1
    have h1 : H[ad k i]? = some (arrV (K.2.2.2 1) (l k i) (fun j => .long (Int64.ofInt (N k i j)))) := h1
    rw [hr] at h1
    exact h1
  have hbk : K.2.1 ≤ ad k i := by
    have := (hH.2.1 k i hik).1
    rw [bs_ne (by omega)] at this
    exact this
  have hb12 : K.2.1 ≤ ad 12 i := (hH.2.1 12 i hi).1
  have hfe : fv g N ad 0 12 i jf = .ref (ad k i) := by
    have : k = 13 ∨ k = 14 ∨ k = 15 := by omega
    rcases this with e | e | e
    · subst e; rw [show jf = 1 by omega]; rfl
    · subst e; rw [show jf = 2 by omega]; rfl
    · subst e; rw [show jf = 3 by omega]; rfl
  have hap := va_apart (own := YX1_makeRoom.1.cls) hts kWX1 tyX1 tyX1_ok nmX1 hK hc
  obtain ⟨cell, q1, q2, q3, q4⟩ := id hob
  obtain ⟨hS, hfc, kC, hkC, hkind⟩ := hK.1 0 _ hc
  obtain ⟨cf, kf, fi, f, hi1, hsl⟩ := hS jf hjl
  have hT1 : (TX1 jf).1 = RX1 := by rw [hTn]
  have hlk : Cond.fieldLink YX1_makeRoom.1.cls ix RX1 (TX1 jf).2.1 (TX1 jf).2.2.1 ∈ TW := by rw [hTn]; exact hlink
  have hst := (u_facts hfc hkC (u_lays hts kWX1 hjl) hi1).1
  refine lv_aload_n C.1 C.2.1 d0.1 rfl (lv_at hL 0 rfl) ?_
  refine lv_aload_n C.1 C.2.1 d1.1 rfl (lv_at hL 0 rfl) ?_
  refine W.getf C.1 C.2.1 C.2.2.2.1 (hts _ hlk) (hT1 ▸ hi1) hst q1 (by rw [q3]; exact fun h => by cases h) (v := .ref (ad k i)) (by rw [hsl, q4 jf hjl]; exact congrArg some hfe) rfl rfl d2.1 ?_
  show W p K.1 e R s m args below meth c H locs cells slots Q (F0 m (pc + 5) L [.ref (ad k i), .ref (ad 12 i)])
  refine lv_iload_n C.1 C.2.1 d3.1 rfl (lv_at hL 1 rfl) ?_
  intro T hT X
  have hB : Back K.1 R p e below s args YJ7_copyOf_c38d5.1 3 8 (PreOf R 1 M (CpLPre K (ad k i) r M (fun j => Int64.ofInt (N k i j)))) (PostOf (CpLQ K (ad k i) r M (fun j => Int64.ofInt (N k i j))) 1 M (fun q => K.2.1 ≤ q)) := by
    refine back_of (bytes := YJ7_copyOf_c38d5.2.1) (maxL := YJ7_copyOf_c38d5.2.2.1) (ret := YJ7_copyOf_c38d5.2.2.2) (cpL hrM hM) ?_ rfl rfl (by show 1 + 1 ≤ R.frames; omega) (by show 8 + (3 + 11) + 64 ≤ R.locals; omega) ?_ List.mem_cons_self ?_
    · intro a U g' mk ⟨h1, h2, h3, h4⟩
      exact ⟨h1, KK.moved (u := U) (U := U.calling g' mk a) (Vm.Alike.refl U.vm) h2, h3, h4⟩
    · intro w hw a' U hW
      rcases List.mem_cons.mp hw with rfl | h'
      · exact tw_warm (a' := a') hts hW _ kCJ7_copyOf_c38d5
      · exact tw_warm (a' := a') hts hW _ h'
    · intro a' U hW
      exact tw_warm (a' := a') hts hW _ kArr_i
  obtain ⟨v, vm₁, B, hW₁, X', hpost, stp⟩ := callS X C.1 (bytes := YJ7_copyOf_c38d5.2.1) (maxL := YJ7_copyOf_c38d5.2.2.1) (ret := YJ7_copyOf_c38d5.2.2.2) C.2.2.2.1 (hts _ kMX1_57) (hts _ kSJ7_copyOf_c38d5) (hts _ kArr_i) (hts _ kCJ7_copyOf_c38d5) ⟨by decide, by decide⟩ hB (g := F0 m (pc + 6) L [.int (Int32.ofInt M), .ref (ad k i), .ref (ad 12 i)]) rfl (hL.1.trans C.2.2.1.symm) (argsL := [.ref (ad k i), .int (Int32.ofInt M)]) (rest := [.ref (ad 12 i)])
    (fun sig hsig => by
      have h2 : parseMethodDescriptor YJ7_copyOf_c38d5.1.desc = some sig := hsig
      have h3 : (parseMethodDescriptor YJ7_copyOf_c38d5.1.desc).map (fun d => d.parameters.length) = some 2 := by decide +kernel
      rw [h2] at h3
      exact (Option.some.inj h3).symm)
    rfl (by show 2 * 0 + 1 ≤ 8; omega) (by rw [C.2.1]; exact d4.1)
    (fun vm₁ hW₁ => ⟨hR1, hR2, rfl, KK.moved (u := s) hW₁.alike hK, by rw [State.setVm]; exact hT ▸ hrw, hbk⟩)
  obtain ⟨g', mk, t, Lc, e1, e2, hc0, hlo, hLb, hcs, hsls⟩ := hpost
  obtain ⟨st₀, hs0, c1, c2, c3, c4⟩ : ∃ st₀ : State, st₀.heap = H ∧ CpLQ K (ad k i) r M (fun j => Int64.ofInt (N k i j)) args st₀ (.returned v) t := ⟨_, hT, hc0⟩
  obtain ⟨U, lU, cU, sU⟩ := B
  dsimp only [Pt.U, Pt.locs, Pt.cells, Pt.slots] at e1 e2 hlo hcs hsls X' stp
  subst hlo
  subst hcs
  subst hsls
  rw [hs0] at c1 c2 c3 c4
  have hv : v = some (.ref H.size) := Outcome.returned.inj c1
  have c2' : U.heap[H.size]? = some (arrV (K.2.2.2 1) M (fun j => .long (if j < r then Int64.ofInt (N k i j) else 0))) := by rw [e1]; exact c2
  have c3' : H.size ≤ U.heap.size := by rw [e1]; exact c3
  have c4' : ∀ q, q < H.size → U.heap[q]? = H[q]? := fun q hq => by rw [e1]; exact c4 q hq
  have hlay := hts _ (kWX1 _ (u_in_lay hjl))
  unfold u_lay at hlay
  rw [if_neg (by rw [hTn]; exact Bool.false_ne_true)] at hlay
  have h6 := u_store hfc hkC hkind hlay hi1 (ty := .array .long) (by rw [hTn]; show parseFieldDescriptor "[J" = _; decide +kernel) (v := .ref H.size) rfl rfl
  have hqU : U.heap[ad 12 i]? = some cell := (c4' _ (Array.getElem?_eq_some_iff.mp q1).1).trans q1
  have kput : W p K.1 e R s m args below meth c U.heap (locs ++ Lc) (cells + 1) (slots + M) Q (F0 m (pc + 9) L [.ref H.size, .ref (ad 12 i)]) := by
    refine W.putK C.1 C.2.1 (f := f) ⟨C.2.2.2.1, hts _ hlk, ⟨_, _, _, hT1 ▸ hi1⟩, hst⟩ (by rw [q2]; exact h6) hqU q3 (by rw [hsl]; exact k2_hasslot (q4 jf hjl)) rfl rfl d5.1 fun H' e1' e2' e3' => ?_
    rw [hsl] at e1'
    have hne : H.size ≠ ad 12 i := by
      have := (Array.getElem?_eq_some_iff.mp q1).1
      omega
    refine kk H.size H' _ (Nat.le_refl _) ?_ (by rw [e2']; exact c3') (fun q hq => ?_) (fun q hq => ?_)
    · have hg := HoldL.grow (K := K) (g := g) (l := l) (N := N) (ad := ad) (H := H) (H' := H') (k := k) (i := i) (jf := jf) (a := H.size) (M := M) hH hk hjf hi (Nat.le_refl _) ?_ ?_ (fun q hq1 hq2 => by rw [e3' q hq2]; exact c4' q hq1)
      · rw [hr] at hg; exact hg
      · unfold hcL
        rw [hkd]
        show H'[adG ad k i H.size k i]? = some (arrV (K.2.2.2 1) (lG l k i M k i) (fun j => .long (Int64.ofInt (NG N k i (l k i) k i j))))
        rw [adG_eq, e3' _ hne, c2', show lG l k i M k i = M from if_pos ⟨rfl, rfl⟩]
        congr 2
        funext j
        have : NG N k i (l k i) k i j = if j < l k i then N k i j else 0 := if_pos ⟨rfl, rfl⟩
        rw [this, hr]
        by_cases cj : j < r
        · rw [if_pos cj, if_pos cj]
        · rw [if_neg cj, if_neg cj]; rfl
      · exact ⟨_, e1', q2, q3, t_set q4 hap hjl (.ref H.size)⟩
    · have hq2 : q ≠ ad 12 i := by omega
      have hq3 : q < H.size := by have := (Array.getElem?_eq_some_iff.mp hrw).1; omega
      rw [e3' q hq2]; exact c4' q hq3
    · rcases List.mem_append.mp hq with h1 | h1
      · rcases List.mem_append.mp h1 with h2 | h2
        · exact Or.inl h2
        · exact Or.inr (hLb q h2)
      · rw [List.mem_singleton.mp h1]; exact Or.inr hb12
  obtain ⟨t2, a2, b2⟩ := kput U rfl X'
  refine ⟨t2, stp t2 ?_, b2⟩
  rw [hv]
  exact a2
