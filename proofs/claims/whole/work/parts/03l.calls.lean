/-! own text: calls of a method that throws, and of one with a table of handlers, where NaNs may be drawn -/
section CL
variable {l : Launch} {R : Room} {p : Program} {e : Env} {below : List Frame} {s : State} {sargs : Array Value} {y : MethodName} {m : MethodId} {meth : Method} {c : Code} {U : State} {Ls : List Loc} {c0 s0 : Nat} {g : JFrame} {ig : Instr} {mk : MethodId} {a : Array Value} {cs : List Choice}
theorem cl_free {S : Spec} {P : Array Value → State → Prop} {Q : Array Value → State → Outcome → State → Prop} {W9 maxL : Nat} {methY : Method} {cY : Code} (hM : MetFree l y S P (fun _ _ _ _ _ => True) (fun a st o t => ∃ d : Drawn, st.drawn.sameBut d cs ∧ Q a (st.setDrawn d) o t)) (X : Stand p l e R s m sargs below meth c U Ls c0 s0)
    (hg : g.method = m) (hsize : g.locals.size = c.maxLocals) (hdg : decode c.code g.pc = .ok (ig, 3)) (hW : 2 * g.monitorRoom + (g.stack.map fun v => v.category).sum ≤ W9) (hn : U.methodNamed? y = some mk) (hmY : U.vm.method? mk = some methY) (hcY : methY.code = some cY) (hlY : cY.maxLocals = maxL) (hini : (Cond.initialized y.cls).before a U = true)
    (hframes : S.room.frames + 1 ≤ R.frames) (hlocals : W9 + (maxL + 11) + S.room.locals ≤ R.locals) (h1 : S.pre.before a U = true) (h4 : c0 + S.room.cells ≤ R.cells) (h5 : s0 + S.room.slots ≤ R.slots) (hP0 : P a (U.calling g mk a)) :
    ∃ (o : Outcome) (s₂ : State) (d : Drawn), Steps p.tables e below (doInvoke e (U.setTop g) [] mk a).1 s₂ ∧ Ended s₂ (.java g :: U.frames.tail) o ∧ s.drawn.sameBut d cs ∧ Q a ((U.setDrawn d).calling g mk a) o s₂ := by
  obtain ⟨kY, hkY, -⟩ := className_of_methodNamed hn
  have hinitY : kY.init = .initialized := Cond.initialized_spec (findClass_of_methodNamed hn) hkY hini
  have h : Jvm.At U g.method c below := by rw [hg]; exact X.here
  have happ : S.appliesLoose y e.platform (U.calling g mk a) = true :=
    Spec.appliesLoose_calling (g := g) h hdg hn hkY hinitY (X.room_calling (g := g) (R' := S.room) hsize hmY hcY hframes (by rw [hlY]; omega) h4 h5) h1
  obtain ⟨mid, hmid⟩ := h.above
  have hfr : (U.setTop g).frames = (.java g :: mid) ++ below := by rw [State.frames_setTop' g h.top, hmid]; rfl
  obtain ⟨o, s₂, hsteps, -, hend, hq⟩ := Steps.callFree hM p X.admits X.cas X.clock (acts := []) hfr happ hP0 trivial
  have hq' : ∃ d : Drawn, (U.calling g mk a).drawn.sameBut d cs ∧ Q a ((U.calling g mk a).setDrawn d) o s₂ := hq
  rw [State.frames_setTop' g h.top] at hend
  obtain ⟨d, hd, hqd⟩ := hq'
  have hcdr : (U.calling g mk a).drawn = s.drawn := by
    rw [State.calling_eq h.top]
    exact X.drawn_eq
  rw [hcdr] at hd
  have h' : Jvm.At (U.setDrawn d) g.method c below := h.setDrawn d
  have hcd : (U.calling g mk a).setDrawn d = (U.setDrawn d).calling g mk a := by
    rw [State.calling_eq h.top, State.calling_eq h'.top]
    rfl
  rw [hcd] at hqd
  exact ⟨o, s₂, d, hsteps, hend, hd, hqd⟩
theorem cl_ret {v : Option Value} {s₂ : State} {d : Drawn} {L : List Loc} {k n : Nat} (X : Stand p l e R s m sargs below meth c U Ls c0 s0) (hg : g.method = m) (hdg : decode c.code g.pc = .ok (ig, 3)) (hend : Ended s₂ (.java g :: U.frames.tail) (.returned v)) (hfe : FrameEnd ((U.setDrawn d).calling g mk a) (.returned v) s₂ L k n) :
    ∃ U' : State, U'.heap = s₂.heap ∧ U'.vm = s₂.vm ∧ Stand p l e R (s.setDrawn d) m sargs below meth c U' (Ls ++ L) (c0 + k) (s0 + n) ∧ s₂ = U'.setTop { g with pc := g.pc + 3, stack := v.toList ++ g.stack } := by
  have h : Jvm.At U g.method c below := by rw [hg]; exact X.here
  have h' : Jvm.At (U.setDrawn d) g.method c below := h.setDrawn d
  have X' : Stand p l e R (s.setDrawn d) m sargs below meth c (U.setDrawn d) Ls c0 s0 := X.drew d
  obtain ⟨-, hW₂, e2, q2, q3, q4, q5, q6⟩ := id hfe
  have e3 : s₂ = ({ ((U.setDrawn d).calling g mk a).setFrames s₂.frames with heap := s₂.heap, slotsUsed := s₂.slotsUsed } : State).setVm s₂.vm := by
    have : s₂ = ({ s₂ with vm := ((U.setDrawn d).calling g mk a).vm } : State).setVm s₂.vm := rfl
    rw [e2] at this
    exact this
  obtain ⟨c₂, i₂, len₂, hc₂, hd₂, hf₂⟩ := hend
  have hW' : (U.setDrawn d).WarmedH s₂.vm := hW₂
  have hcc : c₂ = c := by
    have h1 : s₂.code? g.method = (U.setDrawn d).code? g.method := by
      rw [State.code?_eq, State.code?_eq, hW'.alike.method?]
    exact Option.some.inj (hc₂.symm.trans (h1.trans h'.code))
  subst hcc
  have hlen : len₂ = 3 := by rw [hdg] at hd₂; cases hd₂; rfl
  subst hlen
  obtain ⟨g₀, hg0⟩ := Option.isSome_iff_exists.mp h.top
  obtain ⟨r, hr⟩ := State.topJava?_eq_some.mp hg0
  have hrV : (U.setDrawn d).frames = .java g₀ :: r := hr
  have hs₂ : s₂ = (({ U.setDrawn d with heap := s₂.heap, slotsUsed := s₂.slotsUsed } : State).setVm s₂.vm).setTop { g with pc := g.pc + 3, stack := v.toList ++ g.stack } := by
    have hr' : (({ U.setDrawn d with heap := s₂.heap, slotsUsed := s₂.slotsUsed } : State).setVm s₂.vm).frames = .java g₀ :: r := hr
    refine e3.trans ?_
    rw [hf₂, State.calling_eq h'.top, State.setFrames_setFrames, State.setTop_of_frames _ hr', hr]
    rfl
  have hsame : (U.setDrawn d).sameButNew ({ U.setDrawn d with heap := s₂.heap, slotsUsed := s₂.slotsUsed } : State) L k n := by
    refine ⟨?_, q2, q3, q4, q5, q6⟩
    obtain ⟨t, ht, -⟩ := State.frames_cons hrV
    show ({ U.setDrawn d with heap := s₂.heap, slotsUsed := s₂.slotsUsed } : State) = { (U.setDrawn d).setFrames (U.setDrawn d).frames with heap := s₂.heap, slotsUsed := s₂.slotsUsed }
    rw [State.setFrames_self ht]
  subst hg
  exact ⟨(({ U.setDrawn d with heap := s₂.heap, slotsUsed := s₂.slotsUsed } : State).setVm s₂.vm), rfl, rfl,
    ⟨X'.admits, X'.cas, X'.clock, X'.frames, X'.room, X'.hears, X'.method, X'.code, (X'.here.setHeapUsed s₂.heap s₂.slotsUsed).setVm hW'.alike, X'.tail, State.WarmedH.trans X'.warmed hW', X'.limits, X'.bytes, X'.same.trans (hsame.setVm (s.setDrawn d).vm)⟩, hs₂⟩
theorem cl_thr {q : Addr} {s₂ : State} {d : Drawn} {L : List Loc} {k n : Nat} (X : Stand p l e R s m sargs below meth c U Ls c0 s0) (hg : g.method = m) (hend : Ended s₂ (.java g :: U.frames.tail) (.threw q)) (hW₂ : ((U.setDrawn d).calling g mk a).WarmedH s₂.vm) (hsm : ((U.setDrawn d).calling g mk a).sameButNew ({ s₂ with vm := ((U.setDrawn d).calling g mk a).vm } : State) L k n) :
    ∃ U' : State, U'.heap = s₂.heap ∧ U'.vm = s₂.vm ∧ Stand p l e R (s.setDrawn d) m sargs below meth c U' (Ls ++ L) (c0 + k) (s0 + n) ∧ s₂ = (U'.setTop g).pushFrame (.throwing q) := by
  have h : Jvm.At U g.method c below := by rw [hg]; exact X.here
  have h' : Jvm.At (U.setDrawn d) g.method c below := h.setDrawn d
  have X' : Stand p l e R (s.setDrawn d) m sargs below meth c (U.setDrawn d) Ls c0 s0 := X.drew d
  obtain ⟨e2, q2, q3, q4, q5, q6⟩ := id hsm
  have e3 : s₂ = ({ ((U.setDrawn d).calling g mk a).setFrames s₂.frames with heap := s₂.heap, slotsUsed := s₂.slotsUsed } : State).setVm s₂.vm := by
    have : s₂ = ({ s₂ with vm := ((U.setDrawn d).calling g mk a).vm } : State).setVm s₂.vm := rfl
    rw [e2] at this
    exact this
  have hf₂ : s₂.frames = .throwing q :: .java g :: U.frames.tail := hend
  have hW' : (U.setDrawn d).WarmedH s₂.vm := hW₂
  obtain ⟨g₀, hg0⟩ := Option.isSome_iff_exists.mp h.top
  obtain ⟨r, hr⟩ := State.topJava?_eq_some.mp hg0
  have hrV : (U.setDrawn d).frames = .java g₀ :: r := hr
  have hr' : (({ U.setDrawn d with heap := s₂.heap, slotsUsed := s₂.slotsUsed } : State).setVm s₂.vm).frames = .java g₀ :: r := hr
  have hs₂ : s₂ = ((({ U.setDrawn d with heap := s₂.heap, slotsUsed := s₂.slotsUsed } : State).setVm s₂.vm).setTop g).pushFrame (.throwing q) := by
    refine e3.trans ?_
    rw [hf₂, State.calling_eq h'.top, State.setFrames_setFrames, State.pushFrame, State.frames_setTop _ hr', State.setTop_of_frames _ hr', State.setFrames_setFrames, hr]
    rfl
  have hsame : (U.setDrawn d).sameButNew ({ U.setDrawn d with heap := s₂.heap, slotsUsed := s₂.slotsUsed } : State) L k n := by
    refine ⟨?_, q2, q3, q4, q5, q6⟩
    obtain ⟨t, ht, -⟩ := State.frames_cons hrV
    show ({ U.setDrawn d with heap := s₂.heap, slotsUsed := s₂.slotsUsed } : State) = { (U.setDrawn d).setFrames (U.setDrawn d).frames with heap := s₂.heap, slotsUsed := s₂.slotsUsed }
    rw [State.setFrames_self ht]
  subst hg
  exact ⟨(({ U.setDrawn d with heap := s₂.heap, slotsUsed := s₂.slotsUsed } : State).setVm s₂.vm), rfl, rfl,
    ⟨X'.admits, X'.cas, X'.clock, X'.frames, X'.room, X'.hears, X'.method, X'.code, (X'.here.setHeapUsed s₂.heap s₂.slotsUsed).setVm hW'.alike, X'.tail, State.WarmedH.trans X'.warmed hW', X'.limits, X'.bytes, X'.same.trans (hsame.setVm (s.setDrawn d).vm)⟩, hs₂⟩
end CL
