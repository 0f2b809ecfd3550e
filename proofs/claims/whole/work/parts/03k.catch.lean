/-! own text: walks with another end; a callee that throws; its catch -/
/-- as AW, with another end Z, over code of which E is known -/
def AWG (K : Kx) (Y : Ys) (h : Nat) (Z : List Frame → State → (Nat → Nat → Nat) → Nat → State → Prop) (E : Code → Prop) (pc : Nat) (ls : List (Option AV)) (st : List AV) (N : Nm) (g : Ge) : Prop :=
  ∀ (p : Program) (e : Env) (R : Room) (s : State) (m : MethodId) (args : Array Value) (below : List Frame) (meth : Method) (c : Code) (ad0 : Nat → Nat → Nat) (g0 : Nat),
    Cx K Y h p R s m args meth c g0 → E c → ∀ (H : Heap) (locs : List Loc) (cells slots : Nat) (ad : Nat → Nat → Nat) (L : Array Slot),
      Px K s ad0 g0 N g ad H locs cells slots → lv_has L Y.2.2.1 (lvs ad 0 ls) → okl ls → oks st →
      W p K.1 e R s m args below meth c H locs cells slots (Z below s ad0 g0) (F0 m pc L (st.map (cv ad)))
def drZ (Z : List Frame → State → (Nat → Nat → Nat) → Nat → State → Prop) : Prop := ∀ below s ad0 g0 t (d : Drawn), s.drawn.sameBut d lw_cs → Z below (s.setDrawn d) ad0 g0 t → Z below s ad0 g0 t
theorem drZ_RQ (K : Kx) (Q : Qt) : drZ (RQ K Q) := fun _ _ _ _ _ _ h1 h2 => RQ.drew h1 h2
theorem drZ_RT (K : Kx) (QT : Nm → Ge → Prop) : drZ (RT K QT) := fun _ _ _ _ _ _ h1 h2 => RT.drew h1 h2
theorem AWG.of {K : Kx} {Y : Ys} {h : Nat} {Q : Qt} {E : Code → Prop} {pc : Nat} {ls : List (Option AV)} {st : List AV} {N : Nm} {g : Ge} (kk : AW K Y h Q pc ls st N g) : AWG K Y h (RQ K Q) E pc ls st N g := fun p e R s m args below meth c ad0 g0 C _ => kk p e R s m args below meth c ad0 g0 C
section G1
variable {K : Kx} {Y Y' : Ys} {h h' : Nat} {Z : List Frame → State → (Nat → Nat → Nat) → Nat → State → Prop} {E : Code → Prop} {pc pc' tg : Nat} {ls : List (Option AV)} {st : List AV} {N : Nm} {g : Ge}
theorem AWG.pure {ls' : List (Option AV)} {st' : List AV} (kk : AWG K Y h Z E pc' ls' st' N g) (hok : okl ls → oks st → okl ls' ∧ oks st')
    (f : ∀ (p : Program) (l : Launch) (e : Env) (R : Room) (s : State) (m : MethodId) (args : Array Value) (below : List Frame) (meth : Method) (c : Code) (H : Heap) (locs : List Loc) (cells slots : Nat) (Qs : State → Prop) (ad : Nat → Nat → Nat) (L : Array Slot),
      p.tables.exec = Jvm.exec → c.code = Y.2.1 → s.vm.findClass Y.1.cls = some m.cls → (∀ w ∈ TW, w.before args s = true) → lv_has L Y.2.2.1 (lvs ad 0 ls) →
      (∀ L' : Array Slot, lv_has L' Y.2.2.1 (lvs ad 0 ls') → W p l e R s m args below meth c H locs cells slots Qs (F0 m pc' L' (st'.map (cv ad)))) →
      W p l e R s m args below meth c H locs cells slots Qs (F0 m pc L (st.map (cv ad)))) : AWG K Y h Z E pc ls st N g := by
  intro p e R s m args below meth c ad0 g0 C hE H locs cells slots ad L hP hL hl hs
  obtain ⟨h1, h2⟩ := hok hl hs
  exact f p K.1 e R s m args below meth c H locs cells slots _ ad L C.1 C.2.1 C.2.2.2.1 C.2.2.2.2.1 hL (fun L' hL' => kk p e R s m args below meth c ad0 g0 C hE H locs cells slots ad L' hP hL' h1 h2)
theorem G_ild {i : Nat} {z : Int} {k : Fin 4} (hk : (k : Nat) = i) (hat : At Y pc (.iload_n k) 1 pc') (hi : ls[i]? = some (some (vi z))) (kk : AWG K Y h Z E pc' ls (vi z :: st) N g) : AWG K Y h Z E pc ls st N g := by
  obtain ⟨d, rfl⟩ := hat
  exact AWG.pure kk (fun h1 h2 => ⟨h1, oks_cons trivial h2⟩) (fun p l e R s m args below meth c H locs cells slots Qs ad L hx hb _ _ hL kk2 => lv_iload_n hx hb d hk (lvs_at hL hi) (kk2 L hL))
theorem G_ald {i k0 i0 : Nat} {k : Fin 4} (hk : (k : Nat) = i) (hat : At Y pc (.aload_n k) 1 pc') (hi : ls[i]? = some (some (vr k0 i0))) (kk : AWG K Y h Z E pc' ls (vr k0 i0 :: st) N g) : AWG K Y h Z E pc ls st N g := by
  obtain ⟨d, rfl⟩ := hat
  exact AWG.pure kk (fun h1 h2 => ⟨h1, oks_cons (okl_at h1 hi) h2⟩) (fun p l e R s m args below meth c H locs cells slots Qs ad L hx hb _ _ hL kk2 => lv_aload_n hx hb d hk (lvs_at hL hi) (kk2 L hL))
theorem G_iconst {v : Int} (hat : At Y pc (.iconst v) 1 pc') (kk : AWG K Y h Z E pc' ls (vi v :: st) N g) : AWG K Y h Z E pc ls st N g := by
  obtain ⟨d, rfl⟩ := hat
  exact AWG.pure kk (fun h1 h2 => ⟨h1, oks_cons trivial h2⟩) (fun p l e R s m args below meth c H locs cells slots Qs ad L hx hb _ _ hL k => lv_iconst hx hb d rfl (k L hL))
theorem G_ifeq {a : Int} (hat : AtJ Y pc (.ifCond .eq) pc' tg) (ha : rI a) (k1 : a = 0 → AWG K Y h Z E tg ls st N g) (k2 : a ≠ 0 → AWG K Y h Z E pc' ls st N g) : AWG K Y h Z E pc ls (vi a :: st) N g := by
  obtain ⟨off, d, rfl, ht⟩ := hat
  intro p e R s m args below meth c ad0 g0 C hE H locs cells slots ad L hP hL hl hs
  refine lv_if_eq C.1 C.2.1 d ht (fun q => ?_) (fun q => ?_)
  · exact k1 ((eqI ha rI0).mp q) p e R s m args below meth c ad0 g0 C hE H locs cells slots ad L hP hL hl (oks_tl hs)
  · exact k2 (fun z => q ((eqI ha rI0).mpr z)) p e R s m args below meth c ad0 g0 C hE H locs cells slots ad L hP hL hl (oks_tl hs)
theorem G_iflt {a : Int} (hat : AtJ Y pc (.ifCond .lt) pc' tg) (ha : rI a) (k1 : a < 0 → AWG K Y h Z E tg ls st N g) (k2 : 0 ≤ a → AWG K Y h Z E pc' ls st N g) : AWG K Y h Z E pc ls (vi a :: st) N g := by
  obtain ⟨off, d, rfl, ht⟩ := hat
  intro p e R s m args below meth c ad0 g0 C hE H locs cells slots ad L hP hL hl hs
  refine lv_if_lt C.1 C.2.1 d ht (fun q => ?_) (fun q => ?_)
  · exact k1 ((ltI ha rI0).mp q) p e R s m args below meth c ad0 g0 C hE H locs cells slots ad L hP hL hl (oks_tl hs)
  · exact k2 (Int.not_lt.mp (fun z => q ((ltI ha rI0).mpr z))) p e R s m args below meth c ad0 g0 C hE H locs cells slots ad L hP hL hl (oks_tl hs)
theorem G_icmple {a b : Int} (hat : AtJ Y pc (.if_icmp .le) pc' tg) (ha : rI a) (hb : rI b) (k1 : a ≤ b → AWG K Y h Z E tg ls st N g) (k2 : b < a → AWG K Y h Z E pc' ls st N g) : AWG K Y h Z E pc ls (vi b :: vi a :: st) N g := by
  obtain ⟨off, d, rfl, ht⟩ := hat
  intro p e R s m args below meth c ad0 g0 C hE H locs cells slots ad L hP hL hl hs
  refine lv_icmp_le C.1 C.2.1 d ht (fun q => ?_) (fun q => ?_)
  · exact k1 ((leI ha hb).mp q) p e R s m args below meth c ad0 g0 C hE H locs cells slots ad L hP hL hl (oks_tl (oks_tl hs))
  · exact k2 (Int.not_le.mp (fun z => q ((leI ha hb).mpr z))) p e R s m args below meth c ad0 g0 C hE H locs cells slots ad L hP hL hl (oks_tl (oks_tl hs))
theorem AWG.back (hZ : drZ Z) {p : Program} {e : Env} {R : Room} {s : State} {m : MethodId} {args : Array Value} {below : List Frame} {meth : Method} {c : Code} {ad0 : Nat → Nat → Nat} {g0 : Nat} (C : Cx K Y h p R s m args meth c g0) (hE : E c) {H : Heap} {locs : List Loc} {cells slots : Nat} {ad : Nat → Nat → Nat} {Ls : Array Slot} (hP : Px K s ad0 g0 N g ad H locs cells slots)
    (hL : lv_has Ls Y.2.2.1 (lvs ad 0 ls)) (hl : okl ls) (hs : oks st) (nL : ls.all nml = true) (nS : st.all nmo = true) {v : Option Value} {B : Pt} {vm₁ : Vm} {T : State} {dd : Drawn} (hdd : s.drawn.sameBut dd lw_cs) (hT : T.heap = H) (X' : Stand p K.1 e R (s.setDrawn dd) m args below meth c B.U B.locs B.cells B.slots) {a : Array Value}
    (hpost : BPost K (fun r N' g' => AWG K Y h Z E pc' ls (r.toList ++ st) N' g') (pot2 N g) ad ⟨(T.setVm vm₁).setDrawn dd, locs, cells, slots⟩ a v B) : ∃ t, Steps p.tables e below (B.U.setTop (F0 m pc' Ls (v.toList ++ st.map (cv ad)))) t ∧ Z below s ad0 g0 t := by
  obtain ⟨st₀, t, L, k, n, h0, e1, e2, ⟨r, N', g', ad', q1, q2, q3, q4, q5, q6, q7, q8, q9⟩, hlo, hLb, hc, hsl⟩ := hpost
  have h0' : st₀.heap = H := h0.trans hT
  have hv : v = r.map (cv ad') := Outcome.returned.inj q1
  have hst : v.toList ++ st.map (cv ad) = (r.toList ++ st).map (cv ad') := by
    rw [hv, List.map_append, map_agr q4 hs nS]
    cases r <;> rfl
  have hP' := Px.back (v := v) (r := r) hP h0' e1 hLb q3 q4 q6 q7 q8 q9
  dsimp only [Pt.locs, Pt.cells, Pt.slots] at hlo hc hsl
  have X2 : Stand p K.1 e R (s.setDrawn dd) m args below meth c B.U (locs ++ L) (cells + k) (slots + n) := by
    have X3 := X'
    dsimp only [Pt.locs, Pt.cells, Pt.slots] at X3
    rw [hlo, hc, hsl] at X3
    exact X3
  rw [hst]
  have hoks : oks (r.toList ++ st) := by
    intro w hw
    rcases List.mem_append.mp hw with h1 | h1
    · cases r with
      | none => cases h1
      | some x => rw [List.mem_singleton.mp h1]; exact q5 x rfl
    · exact hs w h1
  obtain ⟨t2, a2, b2⟩ := q2 p e R (s.setDrawn dd) m args below meth c ad0 g0 (C.drew dd) hE B.U.heap (locs ++ L) (cells + k) (slots + n) ad' Ls hP' (by rw [lvs_agr q4 0 hl nL]; exact hL) hl hoks B.U rfl X2
  exact ⟨t2, a2, hZ _ _ _ _ _ _ hdd b2⟩
theorem G_callV (hZ : drZ Z) {k i c idx n : Nat} {q : vw_C} {as : List AV} (hat : At Y pc (.invokevirtual idx) 3 pc') (hlink : Cond.methodLink Y.1.cls idx Y'.1 ∈ TW) (hinst : Cond.instanceMethod Y'.1 ∈ TW) (hsel : Cond.selects Y'.1.cls Y'.1 Y'.1 ∈ TW) (hcode : Cond.code Y'.1 Y'.2.1 Y'.2.2.1 Y'.2.2.2 ∈ TW) (hini : Cond.initialized Y'.1.cls ∈ TW)
    (hd : Y'.1.cls ≠ "java/lang/invoke/MethodHandle" ∧ Y'.1.cls ≠ "java/lang/invoke/VarHandle" ∧ (parseMethodDescriptor Y'.1.desc).map (fun d => d.parameters.length) = some n) (hn : as.length = n) (hk : kd k = (0, c)) (hc : clsL[c]? = some q) (hq : q.1 = Y'.1.cls) (hm : Y'.2.2.1 ≤ 44) (hh : h' + 1 ≤ h)
    (hcat : (st.map cat).sum ≤ 8) (nL : ls.all nml = true) (nS : st.all nmo = true) (hck : Ck K Y' h' (vr k i :: as) N g (fun r N' g' => AWG K Y h Z E pc' ls (r.toList ++ st) N' g')) : AWG K Y h Z E pc ls (as.reverse ++ vr k i :: st) N g := by
  obtain ⟨d, rfl⟩ := hat
  intro p e R s m args below meth cd ad0 g0 C hE H locs cells slots ad L hP hL hl hs T hT X
  have hts := C.2.2.2.2.1
  have h8 := C.2.2.2.2.2.2.2.2
  have hsr : oks (vr k i :: st) := fun w hw => hs w (List.mem_append_right _ hw)
  have has : oks (vr k i :: as) := oks_cons (oks_hd hsr) (fun w hw => hs w (List.mem_append_left _ (List.mem_reverse.mpr hw)))
  have hK : BackD lw_cs K.1 R p e below s args Y'.1 3 8 (BPre K R N g ad (vr k i :: as)) (BPost K (fun r N' g' => AWG K Y h Z E (pc + 3) ls (r.toList ++ st) N' g') (pot2 N g) ad) := Ck.back hck has ad hts hcode hini (by omega) (by omega)
  obtain ⟨cell, q1, q2, q3, -⟩ := hold_obj hP.1 (oks_hd hsr) hk hc
  have hfc := (C.2.2.2.2.2.2.2.1.1 c _ hc).2.1
  obtain ⟨v, vm₁, B, dd, hdd, hW₁, X', hpost, stp⟩ := callV_D X C.1 (C := Y'.1.cls) (bytes := Y'.2.1) (maxL := Y'.2.2.1) (ret := Y'.2.2.2) C.2.2.2.1 (hts _ hlink) (hts _ hinst) (hts _ hsel) (hts _ hcode) ⟨hd.1, hd.2.1⟩ hK (b := ad k i) (cellB := cell) (by rw [hT]; exact q1) (by rw [q3]; rfl) (by rw [q2, ← hq]; exact hfc) (g := F0 m pc L ((as.reverse ++ vr k i :: st).map (cv ad))) rfl (hL.1.trans C.2.2.1.symm) (argsL := as.map (cv ad)) (rest := st.map (cv ad))
    (fun sig hsig => by
      have h2 := hd.2.2
      rw [hsig] at h2
      rw [List.length_map, hn]
      exact (Option.some.inj h2).symm)
    (by rw [List.map_append, List.map_reverse]; rfl)
    (by
      have : (st.map (cv ad)).map (fun v => v.category) = st.map cat := by
        rw [List.map_map]
        exact List.map_congr_left (fun v _ => cv_cat ad v)
      exact lv_room (by rw [this]; exact hcat))
    (by rw [C.2.1]; exact d)
    (fun vm₁ hW₁ => ⟨Nat.le_trans hP.2.2.2.2.2.1 h8.2.2.1, Nat.le_trans hP.2.2.2.2.2.2.1 h8.2.2.2.1, rfl, KK.moved (u := s) hW₁.alike C.2.2.2.2.2.2.2.1, by rw [State.setVm]; exact hT ▸ hP.1, by have h4 := hP.2.2.2.1; have h5 := hP.2.2.2.2.2.2.2; rw [← hT] at h4; exact Nat.le_trans h5 h4, ZK.moved (u := s) (U := T.setVm vm₁) (H := s.heap) (H1 := T.heap) hW₁ (fun q hq => by rw [hT]; exact hP.2.2.2.2.1 q hq) h8.2.2.2.2⟩)
  obtain ⟨t, a1, b1⟩ := AWG.back hZ C hE hP hL hl (oks_tl hsr) nL nS hdd hT X' hpost
  exact ⟨t, stp t a1, b1⟩
end G1
/-- a call of Y with these arguments from this state throws, QT behind it -/
def CkT (K : Kx) (Y : Ys) (h : Nat) (as : List AV) (N : Nm) (g : Ge) (QT : Nm → Ge → Prop) : Prop := oks as → ∀ ad : Nat → Nat → Nat, MetFree K.1 Y.1 (headSpec (wsY Y) (rmK h (pot2 N g))) (CkPre K N g ad as) (fun _ _ _ _ _ => True) (fun _ st o t => ∃ d : Drawn, st.drawn.sameBut d lw_cs ∧ ∃ q, o = .threw q ∧ TQ K QT ad (pot2 N g) (st.setDrawn d) q t)
theorem CkT.intro {K : Kx} {Y : Ys} {h : Nat} {QT : Nm → Ge → Prop} {N : Nm} {g : Ge} {as : List AV} (n : Nat) (hy : plainName Y.1.cls = true) (hl : (ent as).length + n = Y.2.2.1) (kk : AWG K Y h (RT K QT) (fun c => c.exceptionTable.toList = []) 0 (ent as ++ List.replicate n none) [] N g) : CkT K Y h as N g QT := by
  intro hok ad
  refine MetFree.of_bodyS (code := Y.2.1) (maxLocals := Y.2.2.1) (ret := Y.2.2.2) hy ?_ ?_
  · intro args s m h hn
    obtain ⟨meth, c, h1, h2, h3, h4, h5, h6, -, -⟩ := Cond.code_spec hn (atoms_spec (ws := wsY Y) h _ List.mem_cons_self)
    exact ⟨meth, c, h1, h2, h3, h4, h5, h6⟩
  · intro p e s m args below meth c s₁ B hml hP _
    obtain ⟨rfl, hK, hH, hb, hz⟩ := hP
    have hh0 : s₁.heap = s.heap := by rw [B.state]; rfl
    have ht : c.exceptionTable.toList = [] := by
      obtain ⟨meth9, c9, h1, h2, -, -, -, -, h7, -⟩ := Cond.code_spec B.named (atoms_spec (ws := wsY Y) B.pre _ List.mem_cons_self)
      cases Option.some.inj (h1.symm.trans B.method)
      cases Option.some.inj (h2.symm.trans (Stand.of_body B).code)
      rw [Array.isEmpty_iff.mp h7]
    have hts : ∀ w ∈ TW, w.before (as.map (cv ad)).toArray s = true := fun w hw => atoms_spec (ws := wsY Y) B.pre w (List.mem_cons_of_mem _ hw)
    have hE := lv_entry (as.map (cv ad)) (n := Y.2.2.1) (by rw [ent_len]; omega)
    have k := kk p e (headSpec (wsY Y) (rmK h (pot2 N g))).room s m (as.map (cv ad)).toArray below meth c ad (pot2 N g) ⟨B.exec, B.bytes, hml, findClass_of_methodNamed B.named, hts, B.notSynchronized, B.returns, hK, Nat.le_refl _, Nat.le_refl _, Nat.le_refl _, Nat.le_refl _, hz⟩ ht s.heap [] 0 0 ad _
      ⟨hH, Agr.rf ad, fun _ h => absurd h List.not_mem_nil, Nat.le_refl _, fun _ _ => rfl, by omega, by omega, hb⟩ ⟨hE.1, hE.2.1, fun q hq => hE.2.2 q (ent_in ad as 0 _ (fun v hv => by simp at hv) q hq)⟩
      (fun v hv => by
        rcases List.mem_append.mp hv with h1 | h1
        · exact hok v (ent_mem h1)
        · simp at h1) oks_nil
    rw [← hh0] at k
    rw [show F0 m 0 _ (List.map (cv ad) []) = entryFrame m (as.map (cv ad)).toArray Y.2.2.1 from (lg_entry_eq m (as.map (cv ad)) Y.2.2.1).symm] at k
    obtain ⟨t, a1, dd, hdd, q, b1, b2, b3⟩ := k s₁ rfl (Stand.of_body B)
    exact ⟨t, .threw q, a1, b1, b2, dd, hdd, q, rfl, b3⟩
