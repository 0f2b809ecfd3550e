/-! own text: the law's method that catches; its call -/
def tbA : List (Nat × Nat × Nat × Nat) := [(0, 10, 13, 13)]
abbrev EA : Code → Prop := fun c => c.exceptionTable.toList = tableOf tbA
/-- a method with a table of handlers, called -/
def CkW (K : Kx) (Y : Ys) (h : Nat) (hh : List (Nat × Nat × Nat × Nat)) (as : List AV) (N : Nm) (g : Ge) (Q : Qt) : Prop := oks as → ∀ ad : Nat → Nat → Nat, MetFree K.1 Y.1 (headSpec (.codeWith Y.1 Y.2.1 Y.2.2.1 Y.2.2.2 hh :: TW) (rmK h (pot2 N g))) (CkPre K N g ad as) (fun _ _ _ _ _ => True) (CkPost K Q (pot2 N g) ad)
theorem CkW.intro {K : Kx} {Y : Ys} {h : Nat} {hh : List (Nat × Nat × Nat × Nat)} {Q : Qt} {N : Nm} {g : Ge} {as : List AV} (n : Nat) (hy : plainName Y.1.cls = true) (hl : (ent as).length + n = Y.2.2.1) (kk : AWG K Y h (RQ K Q) (fun c => c.exceptionTable.toList = tableOf hh) 0 (ent as ++ List.replicate n none) [] N g) : CkW K Y h hh as N g Q := by
  intro hok ad
  refine MetFree.of_bodyS (code := Y.2.1) (maxLocals := Y.2.2.1) (ret := Y.2.2.2) hy ?_ ?_
  · intro args s m h hn
    obtain ⟨m9, meth, c, hn9, h1, h2, h3, h4, -, h5, h6, -⟩ := Cond.codeWith_spec (atoms_spec (ws := .codeWith Y.1 Y.2.1 Y.2.2.1 Y.2.2.2 hh :: TW) h _ List.mem_cons_self)
    cases hn.symm.trans hn9
    exact ⟨meth, c, h1, h2, h3, h4, h5, h6⟩
  · intro p e s m args below meth c s₁ B hml hP _
    obtain ⟨rfl, hK, hH, hb, hz⟩ := hP
    have hh0 : s₁.heap = s.heap := by rw [B.state]; rfl
    have ht : c.exceptionTable.toList = tableOf hh := vx_table (x := Y.1) B (atoms_spec (ws := .codeWith Y.1 Y.2.1 Y.2.2.1 Y.2.2.2 hh :: TW) B.pre _ List.mem_cons_self)
    have hts : ∀ w ∈ TW, w.before (as.map (cv ad)).toArray s = true := fun w hw => atoms_spec (ws := .codeWith Y.1 Y.2.1 Y.2.2.1 Y.2.2.2 hh :: TW) B.pre w (List.mem_cons_of_mem _ hw)
    have hE := lv_entry (as.map (cv ad)) (n := Y.2.2.1) (by rw [ent_len]; omega)
    have k := kk p e (headSpec (.codeWith Y.1 Y.2.1 Y.2.2.1 Y.2.2.2 hh :: TW) (rmK h (pot2 N g))).room s m (as.map (cv ad)).toArray below meth c ad (pot2 N g) ⟨B.exec, B.bytes, hml, findClass_of_methodNamed B.named, hts, B.notSynchronized, B.returns, hK, Nat.le_refl _, Nat.le_refl _, Nat.le_refl _, Nat.le_refl _, hz⟩ ht s.heap [] 0 0 ad _
      ⟨hH, Agr.rf ad, fun _ h => absurd h List.not_mem_nil, Nat.le_refl _, fun _ _ => rfl, by omega, by omega, hb⟩ ⟨hE.1, hE.2.1, fun q hq => hE.2.2 q (ent_in ad as 0 _ (fun v hv => by simp at hv) q hq)⟩
      (fun v hv => by
        rcases List.mem_append.mp hv with h1 | h1
        · exact hok v (ent_mem h1)
        · simp at h1) oks_nil
    rw [← hh0] at k
    rw [show F0 m 0 _ (List.map (cv ad) []) = entryFrame m (as.map (cv ad)).toArray Y.2.2.1 from (lg_entry_eq m (as.map (cv ad)) Y.2.2.1).symm] at k
    obtain ⟨t, a1, dd, hdd, o, b1, b2, b3⟩ := k s₁ rfl (Stand.of_body B)
    exact ⟨t, o, a1, b1, b2, dd, hdd, b3⟩
section HX
variable {K : Kx} {Y Y' : Ys} {h h' : Nat} {Q : Qt} {pc pc' : Nat} {ls : List (Option AV)} {st : List AV} {N : Nm} {g : Ge}
theorem r_callSW {hh : List (Nat × Nat × Nat × Nat)} {idx n : Nat} {as : List AV} (hat : At Y pc (.invokestatic idx) 3 pc') (hlink : Cond.methodLink Y.1.cls idx Y'.1 ∈ TW) (hstat : Cond.static Y'.1 ∈ TW) (hcode : Cond.codeWith Y'.1 Y'.2.1 Y'.2.2.1 Y'.2.2.2 hh ∈ TW) (hini : Cond.initialized Y'.1.cls ∈ TW)
    (hd : Y'.1.cls ≠ "java/lang/invoke/MethodHandle" ∧ Y'.1.cls ≠ "java/lang/invoke/VarHandle" ∧ (parseMethodDescriptor Y'.1.desc).map (fun d => d.parameters.length) = some n) (hn : as.length = n) (hm : Y'.2.2.1 ≤ 44) (hh9 : h' + 1 ≤ h)
    (hcat : (st.map cat).sum ≤ 8) (nL : ls.all nml = true) (nS : st.all nmo = true) (hck : CkW K Y' h' hh as N g (fun r N' g' => AW K Y h Q pc' ls (r.toList ++ st) N' g')) : AW K Y h Q pc ls (as.reverse ++ st) N g := by
  obtain ⟨d, rfl⟩ := hat
  intro p e R s m args below meth cd ad0 g0 C H locs cells slots ad L hP hL hl hs T hT X
  have hts := C.2.2.2.2.1
  have h8 := C.2.2.2.2.2.2.2.2
  have hsr : oks st := fun w hw => hs w (List.mem_append_right _ hw)
  have has : oks as := fun w hw => hs w (List.mem_append_left _ (List.mem_reverse.mpr hw))
  obtain ⟨mk, methM, cM, hnamed, hmethM, -, -, -, -, -, -, hsigM⟩ := Cond.codeWith_spec (hts _ hcode)
  have hstatic : methM.isStatic = true := Cond.static_spec hnamed hmethM (hts _ hstat)
  obtain ⟨kP, hkP, -⟩ := className_of_methodNamed hnamed
  have hinitP : kP.init = .initialized := Cond.initialized_spec (findClass_of_methodNamed hnamed) hkP (hts _ hini)
  have hlen : (as.map (cv ad)).length = methM.sig.parameters.length := by
    have h2 := hd.2.2
    rw [hsigM] at h2
    rw [List.length_map, hn]
    exact (Option.some.inj h2).symm
  obtain ⟨vm₁, X₁, hstep₁⟩ := X.invokestatic C.1 C.2.2.2.1 (hts _ hlink) hnamed hmethM hstatic hkP hinitP ⟨hd.1, hd.2.1⟩ (g := F0 m pc L ((as.reverse ++ st).map (cv ad))) rfl (argsL := as.map (cv ad)) (rest := st.map (cv ad)) hlen (by rw [List.map_append, List.map_reverse]) (by rw [C.2.1]; exact d)
  have hW₁ := X₁.warmed
  have hw := tw_warm (a' := (as.map (cv ad)).toArray) hts hW₁
  obtain ⟨m9, methY, cY, hn9, hmY, hcY, -, hlY, -⟩ := Cond.codeWith_spec (hw _ hcode)
  have hnm := X₁.named hnamed
  cases Option.some.inj (hn9.symm.trans hnm)
  have hcatS : ((st.map (cv ad)).map fun v => v.category).sum ≤ 8 := by
    have : (st.map (cv ad)).map (fun v => v.category) = st.map cat := by
      rw [List.map_map]
      exact List.map_congr_left (fun v _ => cv_cat ad v)
    rw [this]; exact hcat
  obtain ⟨o, s₂, dd, hsteps, hend, hdd, L9, k9, n9, hfe, hLb, hqk⟩ := cl_free (W9 := 8) (Q := CkP0 K (fun r N' g' => AW K Y h Q (pc + 3) ls (r.toList ++ st) N' g') (pot2 N g) ad) (hck has ad) X₁ (g := F0 m pc L (st.map (cv ad))) rfl (hL.1.trans C.2.2.1.symm) (by rw [C.2.1]; exact d) (lv_room hcatS) hnm hmY hcY hlY (hw _ hini)
    (by show h' + 1 ≤ R.frames; omega) (by show 8 + (Y'.2.2.1 + 11) + 64 * h' ≤ R.locals; omega)
    (atoms_intro fun w hw' => by
      rcases List.mem_cons.mp hw' with rfl | h9
      · exact hw _ hcode
      · exact hw _ h9)
    (Nat.le_trans hP.2.2.2.2.2.1 h8.2.2.1) (Nat.le_trans hP.2.2.2.2.2.2.1 h8.2.2.2.1)
    ⟨rfl, KK.moved (u := s) hW₁.alike C.2.2.2.2.2.2.2.1, by show Hold K g N ad T.heap; rw [hT]; exact hP.1, by show K.2.1 ≤ T.heap.size; rw [hT]; exact Nat.le_trans hP.2.2.2.2.2.2.2 hP.2.2.2.1, ZK.moved (u := s) (H := s.heap) (H1 := T.heap) hW₁ (fun q hq => by rw [hT]; exact hP.2.2.2.2.1 q hq) h8.2.2.2.2⟩
  obtain ⟨v, hv⟩ := hfe.1
  subst hv
  obtain ⟨U', u1, u2, X', hs₂⟩ := cl_ret X₁ rfl (by rw [C.2.1]; exact d) hend hfe
  obtain ⟨t, a1, b1⟩ := AW.back (B := ⟨U', locs ++ L9, cells + k9, slots + n9⟩) (vm₁ := vm₁) (T := T) C hP hL hl hsr nL nS hdd hT X' (v := v) (a := (as.map (cv ad)).toArray) (by refine ⟨_, s₂, L9, k9, n9, ?_, u1, u2, hqk, rfl, hLb, rfl, rfl⟩; rfl)
  refine ⟨t, hstep₁ _ (fun acts => ?_), b1⟩
  rw [doInvoke_state]
  refine hsteps.trans ?_
  rw [hs₂]
  exact a1
end HX
