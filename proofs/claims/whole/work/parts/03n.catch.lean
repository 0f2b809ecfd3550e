/-! own text: the row that calls, is thrown at, and goes on in the handler -/
section HC
variable {K : Kx} {Y' : Ys} {h h' : Nat} {Q : Qt} {pc pc' : Nat} {st : List AV} {N : Nm} {g : Ge}
set_option maxHeartbeats 1000000 in
theorem G_catch {k i c idx n k1 i1 k2 i2 : Nat} {z1 z2 : Int} {q : vw_C} {as : List AV} (hat : At YL_account pc (.invokevirtual idx) 3 pc') (hlink : Cond.methodLink RL idx Y'.1 ∈ TW) (hinst : Cond.instanceMethod Y'.1 ∈ TW) (hsel : Cond.selects Y'.1.cls Y'.1 Y'.1 ∈ TW) (hcode : Cond.code Y'.1 Y'.2.1 Y'.2.2.1 Y'.2.2.2 ∈ TW) (hini : Cond.initialized Y'.1.cls ∈ TW)
    (hd : Y'.1.cls ≠ "java/lang/invoke/MethodHandle" ∧ Y'.1.cls ≠ "java/lang/invoke/VarHandle" ∧ (parseMethodDescriptor Y'.1.desc).map (fun d => d.parameters.length) = some n) (hn : as.length = n) (hk : kd k = (0, c)) (hc : clsL[c]? = some q) (hq : q.1 = Y'.1.cls) (hm : Y'.2.2.1 ≤ 44) (hh : h' + 1 ≤ h)
    (hcat : (st.map cat).sum ≤ 8) (hm1 : mov k1 = false) (hm2 : mov k2 = false) (hcov : covers ⟨0, 10, 13, 13⟩ pc = true) (hcl9 : Cond.classLink RL 13 xN ∈ TW)
    (hck : CkT K Y' h' (vr k i :: as) N g (fun N' g' => AW K YL_account h Q 15 [some (vr k1 i1), some (vi z1), some (vi z2), some (vr k2 i2), none] [] N' g')) :
    AWG K YL_account h (RQ K Q) EA pc [some (vr k1 i1), some (vi z1), some (vi z2), some (vr k2 i2), none] (as.reverse ++ vr k i :: st) N g := by
  obtain ⟨d, rfl⟩ := hat
  intro p e R s m args below meth cd ad0 g0 C hE H locs cells slots ad L hP hL hl hs T hT X
  have hts := C.2.2.2.2.1
  have h8 := C.2.2.2.2.2.2.2.2
  have hsr : oks (vr k i :: st) := fun w hw => hs w (List.mem_append_right _ hw)
  have has : oks (vr k i :: as) := oks_cons (oks_hd hsr) (fun w hw => hs w (List.mem_append_left _ (List.mem_reverse.mpr hw)))
  obtain ⟨cell, o1, o2, o3, -⟩ := hold_obj hP.1 (oks_hd hsr) hk hc
  have hfc := (C.2.2.2.2.2.2.2.1.1 c _ hc).2.1
  have hcls : s.vm.findClass Y'.1.cls = some cell.cls := by rw [o2, ← hq]; exact hfc
  obtain ⟨mk, methM, hnamed, hmethM, hstM, habM⟩ := Cond.instanceMethod_spec (hts _ hinst)
  obtain ⟨methM', cM, hmethM', -, -, -, -, -, -, hsigM⟩ := Cond.code_spec hnamed (hts _ hcode)
  cases hmethM.symm.trans hmethM'
  obtain ⟨c2, r2, m2, q1, q2, q3, q4, kP, hkP, hkPi⟩ := Cond.selects_spec (hts _ hsel)
  cases hcls.symm.trans q1
  cases (State.methodFound?_of_named hnamed ⟨hd.1, hd.2.1⟩).symm.trans q2
  cases hnamed.symm.trans q3
  have hselP : selectMethod e.platform s.vm cell.cls mk = .method mk := by rw [Launch.admits_selectMethod X.admits]; exact q4
  have hlen : (as.map (cv ad)).length = methM.sig.parameters.length := by
    have h2 := hd.2.2
    rw [hsigM] at h2
    rw [List.length_map, hn]
    exact (Option.some.inj h2).symm
  obtain ⟨vm₁, X₁, hstep₁⟩ := X.invokevirtual C.1 C.2.2.2.1 (hts _ hlink) hnamed hmethM hstM hkP hkPi ⟨hd.1, hd.2.1⟩ (a := ad k i) (cell := cell) (by rw [hT]; exact o1) (fun z hz => by rw [o3] at hz; cases hz) hselP hmethM habM hkP hkPi (g := F0 m pc L ((as.reverse ++ vr k i :: st).map (cv ad))) rfl (argsL := as.map (cv ad)) (rest := st.map (cv ad)) hlen (by rw [List.map_append, List.map_reverse]; rfl) (by rw [C.2.1]; exact d)
  have hW₁ := X₁.warmed
  have hw := tw_warm (a' := ((vr k i :: as).map (cv ad)).toArray) hts hW₁
  have hnm := X₁.named hnamed
  obtain ⟨methY, cY, hmY, hcY, -, hlY, -, -, -, -⟩ := Cond.code_spec hnm (hw _ hcode)
  have hcatS : ((st.map (cv ad)).map fun v => v.category).sum ≤ 8 := by
    have : (st.map (cv ad)).map (fun v => v.category) = st.map cat := by
      rw [List.map_map]
      exact List.map_congr_left (fun v _ => cv_cat ad v)
    rw [this]; exact hcat
  obtain ⟨o, s₂, dd, hsteps, hend, hdd, qa, ho, ce, L9, k9, n9, N', g', ad', t1, t2, t3, t4, t5, t6, t7, t8, t9, t10, t11, t12, t13⟩ := cl_free (W9 := 8) (Q := fun _ st o t => ∃ q, o = .threw q ∧ TQ K (fun N' g' => AW K YL_account h Q 15 [some (vr k1 i1), some (vi z1), some (vi z2), some (vr k2 i2), none] [] N' g') ad (pot2 N g) st q t) (hck has ad) X₁ (g := F0 m pc L (st.map (cv ad))) rfl (hL.1.trans C.2.2.1.symm) (by rw [C.2.1]; exact d) (lv_room hcatS) hnm hmY hcY hlY (hw _ hini)
    (by show h' + 1 ≤ R.frames; omega) (by show 8 + (Y'.2.2.1 + 11) + 64 * h' ≤ R.locals; omega)
    (atoms_intro fun w hw' => by
      rcases List.mem_cons.mp hw' with rfl | h9
      · exact hw _ hcode
      · exact hw _ h9)
    (Nat.le_trans hP.2.2.2.2.2.1 h8.2.2.1) (Nat.le_trans hP.2.2.2.2.2.2.1 h8.2.2.2.1)
    ⟨rfl, KK.moved (u := s) hW₁.alike C.2.2.2.2.2.2.2.1, by show Hold K g N ad T.heap; rw [hT]; exact hP.1, by show K.2.1 ≤ T.heap.size; rw [hT]; exact Nat.le_trans hP.2.2.2.2.2.2.2 hP.2.2.2.1, ZK.moved (u := s) (H := s.heap) (H1 := T.heap) hW₁ (fun q hq => by rw [hT]; exact hP.2.2.2.2.1 q hq) h8.2.2.2.2⟩
  subst ho
  obtain ⟨U', u1, u2, X', hs₂⟩ := cl_thr X₁ rfl hend t4 t5
  have C' := C.drew dd
  have hP' : Px K (s.setDrawn dd) ad0 g0 N' g' ad' U'.heap (locs ++ L9) (cells + k9) (slots + n9) := by
    have t10' : H.size ≤ s₂.heap.size := by rw [← hT]; exact t10
    have t11' : ∀ q, q < K.2.1 → s₂.heap[q]? = H[q]? := fun q hq => by rw [← hT]; exact t11 q hq
    obtain ⟨p1, p2, p3, p4, p5, p6, p7, p8⟩ := hP
    refine ⟨by rw [u1]; exact t8, p2.tr t9, fun z hz => ?_, by rw [u1]; exact Nat.le_trans p4 t10', fun q hq => by rw [u1, t11' q hq]; exact p5 q hq, by omega, by omega, p8⟩
    rcases List.mem_append.mp hz with h1 | h1
    · exact p3 z h1
    · exact t6 z h1
  have hcc : s.vm.findClass xN = some ce.cls := by
    have h1 : (T.setVm vm₁).vm.findClass xN = some ce.cls := t3
    rw [hW₁.alike.findClass] at h1
    exact h1
  have hL' : lv_has L 5 (lvs ad' 0 [some (vr k1 i1), some (vi z1), some (vi z2), some (vr k2 i2), none]) := by
    have e9 : lvs ad' 0 [some (vr k1 i1), some (vi z1), some (vi z2), some (vr k2 i2), none] = lvs ad 0 [some (vr k1 i1), some (vi z1), some (vi z2), some (vr k2 i2), none] := lvs_agr t9 0 hl (by simp [nml, nmo, hm1, hm2])
    rw [e9]
    exact hL
  have hcast : (Cond.castable xN xN).before args (s.setDrawn dd) = true := wd_cast (u := s) (U := s.setDrawn dd) (Vm.Alike.refl s.vm) h8.2.2.2.2.2.2.2.2.1
  have hwk : W p K.1 e R (s.setDrawn dd) m args below meth cd U'.heap (locs ++ L9) (cells + k9) (slots + n9) (RQ K Q below (s.setDrawn dd) ad0 g0) (F0 m 13 L [.ref qa]) := by
    refine lv_astore C'.1 C'.2.1 iL_account_13.1 (i := 4) (nL := 5) (x := qa) hL' (by omega) rfl (fun ls' hls' => ?_)
    refine t7 p e R (s.setDrawn dd) m args below meth cd ad0 g0 C' U'.heap (locs ++ L9) (cells + k9) (slots + n9) ad' ls' hP' ⟨hls'.1, hls'.2.1, fun x hx => hls'.2.2 x (List.mem_cons_of_mem _ (List.mem_filter.mpr ⟨hx, ?_⟩))⟩ hl oks_nil
    simp only [lvs, List.mem_cons, List.not_mem_nil, or_false] at hx
    rcases hx with rfl | rfl | rfl | rfl <;> rfl
  obtain ⟨t, a1, b1⟩ := vx_catch (own := RL) (name := xN) (E := xN) (pc := pc) (rest := st.map (cv ad)) C'.2.2.2.1 [] ⟨0, 10, 13, 13⟩ [] hE (fun z hz => nomatch hz) hcov (by decide) (C'.2.2.2.2.1 _ hcl9) hcast (by rw [u1]; exact t1) t2 hcc hwk U' rfl X'
  refine ⟨t, hstep₁ _ (fun acts => ?_), RQ.drew hdd b1⟩
  rw [doInvoke_state]
  refine hsteps.trans ?_
  rw [hs₂]
  exact a1
end HC
