/-! own text: the beginning of a method; answers by their kinds -/
theorem ent_mem : ∀ {as : List AV} {v : AV}, some v ∈ ent as → v ∈ as
  | [], v, hv => by simp [ent] at hv
  | a :: as, v, hv => by
    have e : ent (a :: as) = (if cat a = 2 then [some a, none] else [some a]) ++ ent as := by simp [ent]
    rw [e] at hv
    rcases List.mem_append.mp hv with h1 | h1
    · split at h1 <;> simp at h1 <;> rw [h1] <;> exact List.mem_cons_self
    · exact List.mem_cons_of_mem _ (ent_mem h1)
theorem ent_len (ad : Nat → Nat → Nat) : ∀ (as : List AV), (lg_sl (as.map (cv ad))).length = (ent as).length
  | [] => rfl
  | a :: as => by
    have h1 := ent_len ad as
    have e1 : ent (a :: as) = (if cat a = 2 then [some a, none] else [some a]) ++ ent as := by simp [ent]
    have e2 : lg_sl ((a :: as).map (cv ad)) = (if (cv ad a).category = 2 then [.val (cv ad a), .second] else [.val (cv ad a)]) ++ lg_sl (as.map (cv ad)) := by simp [lg_sl]
    rw [e1, e2, List.length_append, List.length_append, h1, cv_cat]
    split <;> rfl
section Begin
variable {K : Kx} {Y Y' : Ys} {h h' : Nat} {Q : Qt} {pc pc' : Nat} {ls : List (Option AV)} {st : List AV} {N : Nm} {g : Ge}
theorem Ck.intro {as : List AV} (n : Nat) (hy : plainName Y.1.cls = true) (hl : (ent as).length + n = Y.2.2.1) (kk : AW K Y h Q 0 (ent as ++ List.replicate n none) [] N g) : Ck K Y h as N g Q := by
  intro hok ad
  refine MetFree.of_bodyS (code := Y.2.1) (maxLocals := Y.2.2.1) (ret := Y.2.2.2) hy ?_ ?_
  · intro args s m h hn
    obtain ⟨meth, c, h1, h2, h3, h4, h5, h6, -, -⟩ := Cond.code_spec hn (atoms_spec (ws := wsY Y) h _ List.mem_cons_self)
    exact ⟨meth, c, h1, h2, h3, h4, h5, h6⟩
  · intro p e s m args below meth c s₁ B hml hP _
    obtain ⟨rfl, hK, hH, hb, hz⟩ := hP
    have hh0 : s₁.heap = s.heap := by rw [B.state]; rfl
    have hts : ∀ w ∈ TW, w.before (as.map (cv ad)).toArray s = true := fun w hw => atoms_spec (ws := wsY Y) B.pre w (List.mem_cons_of_mem _ hw)
    have hE := lv_entry (as.map (cv ad)) (n := Y.2.2.1) (by rw [ent_len]; omega)
    have k := kk p e (headSpec (wsY Y) (rmK h (pot2 N g))).room s m (as.map (cv ad)).toArray below meth c ad (pot2 N g) ⟨B.exec, B.bytes, hml, findClass_of_methodNamed B.named, hts, B.notSynchronized, B.returns, hK, Nat.le_refl _, Nat.le_refl _, Nat.le_refl _, Nat.le_refl _, hz⟩ s.heap [] 0 0 ad _
      ⟨hH, Agr.rf ad, fun _ h => absurd h List.not_mem_nil, Nat.le_refl _, fun _ _ => rfl, by omega, by omega, hb⟩ ⟨hE.1, hE.2.1, fun q hq => hE.2.2 q (ent_in ad as 0 _ (fun v hv => by simp at hv) q hq)⟩
      (fun v hv => by
        rcases List.mem_append.mp hv with h1 | h1
        · exact hok v (ent_mem h1)
        · simp at h1) oks_nil
    rw [← hh0] at k
    rw [show F0 m 0 _ (List.map (cv ad) []) = entryFrame m (as.map (cv ad)).toArray Y.2.2.1 from (lg_entry_eq m (as.map (cv ad)) Y.2.2.1).symm] at k
    obtain ⟨t, a1, dd, hdd, o, b1, b2, b3⟩ := k s₁ rfl (Stand.of_body B)
    exact ⟨t, o, a1, b1, b2, dd, hdd, b3⟩
theorem Ck.introF {as : List AV} (n : Nat) (hy : plainFor Y.1 = true) (hl : (ent as).length + n = Y.2.2.1) (kk : AW K Y h Q 0 (ent as ++ List.replicate n none) [] N g) : Ck K Y h as N g Q := by
  intro hok ad
  refine MetFree.of_bodySF (code := Y.2.1) (maxLocals := Y.2.2.1) (ret := Y.2.2.2) hy ?_ ?_
  · intro args s m h hn
    obtain ⟨meth, c, h1, h2, h3, h4, h5, h6, -, -⟩ := Cond.code_spec hn (atoms_spec (ws := wsY Y) h _ List.mem_cons_self)
    exact ⟨meth, c, h1, h2, h3, h4, h5, h6⟩
  · intro p e s m args below meth c s₁ B hml hP _
    obtain ⟨rfl, hK, hH, hb, hz⟩ := hP
    have hh0 : s₁.heap = s.heap := by rw [B.state]; rfl
    have hts : ∀ w ∈ TW, w.before (as.map (cv ad)).toArray s = true := fun w hw => atoms_spec (ws := wsY Y) B.pre w (List.mem_cons_of_mem _ hw)
    have hE := lv_entry (as.map (cv ad)) (n := Y.2.2.1) (by rw [ent_len]; omega)
    have k := kk p e (headSpec (wsY Y) (rmK h (pot2 N g))).room s m (as.map (cv ad)).toArray below meth c ad (pot2 N g) ⟨B.exec, B.bytes, hml, findClass_of_methodNamed B.named, hts, B.notSynchronized, B.returns, hK, Nat.le_refl _, Nat.le_refl _, Nat.le_refl _, Nat.le_refl _, hz⟩ s.heap [] 0 0 ad _
      ⟨hH, Agr.rf ad, fun _ h => absurd h List.not_mem_nil, Nat.le_refl _, fun _ _ => rfl, by omega, by omega, hb⟩ ⟨hE.1, hE.2.1, fun q hq => hE.2.2 q (ent_in ad as 0 _ (fun v hv => by simp at hv) q hq)⟩
      (fun v hv => by
        rcases List.mem_append.mp hv with h1 | h1
        · exact hok v (ent_mem h1)
        · simp at h1) oks_nil
    rw [← hh0] at k
    rw [show F0 m 0 _ (List.map (cv ad) []) = entryFrame m (as.map (cv ad)).toArray Y.2.2.1 from (lg_entry_eq m (as.map (cv ad)) Y.2.2.1).symm] at k
    obtain ⟨t, a1, dd, hdd, o, b1, b2, b3⟩ := k s₁ rfl (Stand.of_body B)
    exact ⟨t, o, a1, b1, b2, dd, hdd, b3⟩
/-! answers by their kinds -/
def qI (P : Int → Nm → Ge → Prop) : Qt := fun r N g => ∃ z, r = some (vi z) ∧ P z N g
def qL (P : Int → Nm → Ge → Prop) : Qt := fun r N g => ∃ z, r = some (vl z) ∧ P z N g
def qV (P : Nm → Ge → Prop) : Qt := fun r N g => r = none ∧ P N g
def qR (P : Nat → Nat → Nm → Ge → Prop) : Qt := fun r N g => ∃ k i, r = some (vr k i) ∧ P k i N g
def qD (P : UInt64 → Nm → Ge → Prop) : Qt := fun r N g => ∃ z, r = some (vd z) ∧ P z N g
theorem qI_b {P : Int → Nm → Ge → Prop} (hp : ∀ z N g, P z N g → AW K Y h Q pc ls (vi z :: st) N g) : ∀ r N g, qI P r N g → AW K Y h Q pc ls (r.toList ++ st) N g := fun r N g ⟨z, e, q⟩ => by subst e; exact hp z N g q
theorem qL_b {P : Int → Nm → Ge → Prop} (hp : ∀ z N g, P z N g → AW K Y h Q pc ls (vl z :: st) N g) : ∀ r N g, qL P r N g → AW K Y h Q pc ls (r.toList ++ st) N g := fun r N g ⟨z, e, q⟩ => by subst e; exact hp z N g q
theorem qV_b {P : Nm → Ge → Prop} (hp : ∀ N g, P N g → AW K Y h Q pc ls st N g) : ∀ r N g, qV P r N g → AW K Y h Q pc ls (r.toList ++ st) N g := fun r N g ⟨e, q⟩ => by subst e; exact hp N g q
theorem qR_b {P : Nat → Nat → Nm → Ge → Prop} (hp : ∀ k i N g, P k i N g → AW K Y h Q pc ls (vr k i :: st) N g) : ∀ r N g, qR P r N g → AW K Y h Q pc ls (r.toList ++ st) N g := fun r N g ⟨k, i, e, q⟩ => by subst e; exact hp k i N g q
theorem qD_b {P : UInt64 → Nm → Ge → Prop} (hp : ∀ z N g, P z N g → AW K Y h Q pc ls (vd z :: st) N g) : ∀ r N g, qD P r N g → AW K Y h Q pc ls (r.toList ++ st) N g := fun r N g ⟨z, e, q⟩ => by subst e; exact hp z N g q
theorem t_int {P : Int → Nm → Ge → Prop} {z : Int} (hr : Y.2.2.2 = some .int) (hat : At Y pc .ireturn 1 pc') (hq : P z N g) : AW K Y h (qI P) pc ls [vi z] N g := e_int hr hat ⟨z, rfl, hq⟩
theorem t_bool {P : Int → Nm → Ge → Prop} {z : Int} (hr : Y.2.2.2 = some .boolean) (hz : z = 0 ∨ z = 1) (hat : At Y pc .ireturn 1 pc') (hq : P z N g) : AW K Y h (qI P) pc ls [vi z] N g := e_bool hr hz hat ⟨z, rfl, hq⟩
theorem t_long {P : Int → Nm → Ge → Prop} {z : Int} (hr : Y.2.2.2 = some .long) (hat : At Y pc .lreturn 1 pc') (hq : P z N g) : AW K Y h (qL P) pc ls [vl z] N g := e_long hr hat ⟨z, rfl, hq⟩
theorem t_double {P : UInt64 → Nm → Ge → Prop} {z : UInt64} (hr : Y.2.2.2 = some .double) (hat : At Y pc .dreturn 1 pc') (hq : P z N g) : AW K Y h (qD P) pc ls [vd z] N g := e_double hr hat ⟨z, rfl, hq⟩
theorem t_void {P : Nm → Ge → Prop} (hr : Y.2.2.2 = none) (hat : At Y pc .return_ 1 pc') (hq : P N g) : AW K Y h (qV P) pc ls [] N g := e_void hr hat ⟨rfl, hq⟩
theorem t_ref {P : Nat → Nat → Nm → Ge → Prop} {k i : Nat} {rt : FieldType} (hr : Y.2.2.2 = some rt) (hrt : (∃ n, rt = .object n) ∨ ∃ t, rt = .array t) (hat : At Y pc .areturn 1 pc') (hq : P k i N g) : AW K Y h (qR P) pc ls [vr k i] N g := e_ref hr hrt hat ⟨k, i, rfl, hq⟩
end Begin
