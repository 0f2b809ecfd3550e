/-! own text: fields and arrays -/
section Rows3
variable {K : Kx} {Y : Ys} {h : Nat} {Q : Qt} {pc pc' : Nat} {ls : List (Option AV)} {st : List AV} {N : Nm} {g : Ge}
theorem hold_obj {ad : Nat → Nat → Nat} {H : Heap} {k i c : Nat} {q : vw_C} (hH : Hold K g N ad H) (hi : i < cnt k) (hk : kd k = (0, c)) (hc : clsL[c]? = some q) : t_OB (ad k i) (K.2.2.1.1 c) q.2.2 (K.2.2.1.2 c) H (fun j => fv g N ad c k i j) := by
  have h1 := (hH.2.1 k i hi).2
  unfold hcell at h1
  rw [hk] at h1
  obtain ⟨q', h2, h3⟩ := h1
  cases hc.symm.trans h2
  exact h3
theorem hold_i {ad : Nat → Nat → Nat} {H : Heap} {k i c : Nat} (hH : Hold K g N ad H) (hi : i < cnt k) (hk : kd k = (1, c)) : H[ad k i]? = some (arrV (K.2.2.2 c) (ln g k i) (fun j => .int (Int32.ofInt (N k i j)))) := by
  have h1 := (hH.2.1 k i hi).2
  unfold hcell at h1
  rw [hk] at h1
  exact h1
theorem hold_l {ad : Nat → Nat → Nat} {H : Heap} {k i c : Nat} (hH : Hold K g N ad H) (hi : i < cnt k) (hk : kd k = (2, c)) : H[ad k i]? = some (arrV (K.2.2.2 c) (ln g k i) (fun j => .long (Int64.ofInt (N k i j)))) := by
  have h1 := (hH.2.1 k i hi).2
  unfold hcell at h1
  rw [hk] at h1
  exact h1
theorem hold_r {ad : Nat → Nat → Nat} {H : Heap} {k i c : Nat} (hH : Hold K g N ad H) (hi : i < cnt k) (hk : kd k = (3, c)) : H[ad k i]? = some (arrV (K.2.2.2 c) (ln g k i) (fun j => .ref (ad (rf g k i j).1 (rf g k i j).2))) := by
  have h1 := (hH.2.1 k i hi).2
  unfold hcell at h1
  rw [hk] at h1
  exact h1
/-- getfield -/
theorem r_get {k i j c idx : Nat} {C : String} {T : u_T} {n : Nat} {v : AV} (hk : kd k = (0, c)) (hc : clsL[c]? = some (C, T, n)) (hj : j < n) (hws : ∀ w ∈ u_ws C T n, w ∈ TW) (hT : (T j).1 = C) (hlink : Cond.fieldLink Y.1.cls idx C (T j).2.1 (T j).2.2.1 ∈ TW)
    (hv : ∀ ad, fv g N ad c k i j = cv ad v) (hok : g.1 < 2 → g.2.1 < 2 → i < cnt k → okv v) (hat : At Y pc (.getfield idx) 3 pc') (kk : AW K Y h Q pc' ls (v :: st) N g) : AW K Y h Q pc ls (vr k i :: st) N g := by
  obtain ⟨d, rfl⟩ := hat
  intro p e R s m args below meth cd ad0 g0 Cc H locs cells slots ad L hP hL hl hs
  have hi : i < cnt k := oks_hd hs
  have hK := Cc.2.2.2.2.2.2.2.1
  have hts := Cc.2.2.2.2.1
  obtain ⟨cell, q1, q2, q3, q4⟩ := hold_obj hP.1 hi hk hc
  obtain ⟨hS, hfc, kC, hkC, hkind⟩ := hK.1 c _ hc
  obtain ⟨cf, kf, fi, f, hi1, hsl⟩ := hS j hj
  refine W.getf Cc.1 Cc.2.1 Cc.2.2.2.1 (hts _ hlink) (hT ▸ hi1) (u_facts hfc hkC (u_lays hts hws hj) hi1).1 q1 (by rw [q3]; exact fun h => by cases h) (v := cv ad v) ?_ rfl rfl d (kk p e R s m args below meth cd ad0 g0 Cc H locs cells slots ad L hP hL hl (oks_cons (hok hP.1.1.1 hP.1.1.2 hi) (oks_tl hs)))
  rw [hsl, q4 j hj]
  exact congrArg some (hv ad)
theorem Px.put {s : State} {ad0 ad : Nat → Nat → Nat} {g0 : Nat} {H H' : Heap} {locs : List Loc} {cells slots k i j z : Nat} {v : Int} (hP : Px K s ad0 g0 N g ad H locs cells slots) (hk61 : k ≠ 61) (hi : i < cnt k) (hs : hcell K g (upN N k i j v) ad k i H') (e2 : H'.size = H.size) (e3 : ∀ q, q ≠ ad k i → H'[q]? = H[q]?) : Px K s ad0 g0 (upN N k i j v) g ad H' (locs ++ [⟨ad k i, z⟩]) cells slots := by
  obtain ⟨h1, h2, h3, h4, h5, h6⟩ := hP
  have hb := (h1.2.1 k i hi).1
  rw [bs_ne hk61] at hb
  refine ⟨h1.upd hi hs e3, h2, fun q hq => ?_, by rw [e2]; exact h4, fun q hq => ?_, by rw [pot2_up hi]; exact h6⟩
  · rcases List.mem_append.mp hq with h | h
    · exact h3 q h
    · rw [List.mem_singleton.mp h]; exact hb
  · rw [e3 q (by omega)]; exact h5 q hq
/-- putfield of a number -/
theorem r_put {k i j c idx : Nat} {C : String} {T : u_T} {ty0 : Nat → FieldType} {ty : FieldType} {n : Nat} {v : AV} {z : Int} (hk : kd k = (0, c)) (hc : clsL[c]? = some (C, T, n)) (hj : j < n) (hws : ∀ w ∈ u_ws C T n, w ∈ TW) (hT : (T j).1 = C) (hlink : Cond.fieldLink Y.1.cls idx C (T j).2.1 (T j).2.2.1 ∈ TW)
    (hty : ∀ k, k < n → parseFieldDescriptor (T k).2.2.1 = some (ty0 k)) (hnm : ∀ a, a < n → ∀ b, b < n → a ≠ b → (T a).2.1 ≠ (T b).2.1) (hfin : (T j).2.2.2 = false) (hd : parseFieldDescriptor (T j).2.2.1 = some ty) (hn : ∀ ad, narrow ty (cv ad v) = cv ad v) (hfit : ∀ ad, fits ty (cv ad v) = true)
    (hv : ∀ ad, fv g (upN N k i j z) ad c k i j = cv ad v) (hat : At Y pc (.putfield idx) 3 pc') (kk : AW K Y h Q pc' ls st (upN N k i j z) g) : AW K Y h Q pc ls (v :: vr k i :: st) N g := by
  obtain ⟨d, rfl⟩ := hat
  intro p e R s m args below meth cd ad0 g0 Cc H locs cells slots ad L hP hL hl hs
  have hi : i < cnt k := oks_hd (oks_tl hs)
  have hK := Cc.2.2.2.2.2.2.2.1
  have hts := Cc.2.2.2.2.1
  have hap := va_apart (own := Y.1.cls) hts hws ty0 hty hnm hK hc
  obtain ⟨cell, q1, q2, q3, q4⟩ := hold_obj hP.1 hi hk hc
  obtain ⟨hS, hfc, kC, hkC, hkind⟩ := hK.1 c _ hc
  obtain ⟨cf, kf, fi, f, hi1, hsl⟩ := hS j hj
  have hlay := hts _ (hws _ (u_in_lay hj))
  unfold u_lay at hlay
  rw [if_neg (by rw [hfin]; decide)] at hlay
  have hst := (u_facts hfc hkC (u_lays hts hws hj) hi1).1
  have h6 := u_store hfc hkC hkind hlay hi1 hd (hn ad) (hfit ad)
  refine W.putK Cc.1 Cc.2.1 (f := f) ⟨Cc.2.2.2.1, hts _ hlink, ⟨_, _, _, hT ▸ hi1⟩, hst⟩ (by rw [q2]; exact h6) q1 q3 (by rw [hsl]; exact k2_hasslot (q4 j hj)) rfl rfl d fun H' e1 e2 e3 => ?_
  rw [hsl] at e1
  refine kk p e R s m args below meth cd ad0 g0 Cc H' _ cells slots ad L (hP.put (j := j) (v := z) (fun e61 => by rw [e61] at hk; cases hk) hi ?_ e2 e3) hL hl (oks_tl (oks_tl hs))
  unfold hcell
  rw [hk]
  refine ⟨_, hc, t_OB.to (V := updV (fun j => fv g N ad c k i j) j (cv ad v)) ⟨_, e1, q2, q3, t_set q4 hap hj (cv ad v)⟩ (fun j' _ => ?_)⟩
  by_cases e : j' = j
  · subst e
    rw [hv]; simp [updV]
  · simp only [updV, if_neg e, fv, upN_j e]
theorem in_of {j : Int} {n len : Nat} (hj : j = (n : Int)) (hn : n < len) (hs : n < 2 ^ 31) : (Int32.ofInt j).toNatClampNeg = n ∧ ¬ (Int32.ofInt j < 0 ∨ len ≤ (Int32.ofInt j).toNatClampNeg) := by
  subst hj
  have h1 : (Int32.ofInt (n : Int)).toNatClampNeg = n := nI_clamp hs
  refine ⟨h1, ?_⟩
  rw [h1]
  intro q
  rcases q with q | q
  · exact nI_pos hs q
  · omega
/-- an array's place is read -/
theorem r_iald {k i n : Nat} {j : Int} (hj : j = (n : Int)) (hn : n < ln g k i) (hs : n < 2 ^ 31) (hk : kd k = (1, 0)) (hat : At Y pc .iaload 1 pc') (kk : AW K Y h Q pc' ls (vi (N k i n) :: st) N g) : AW K Y h Q pc ls (vi j :: vr k i :: st) N g := by
  obtain ⟨d, rfl⟩ := hat
  intro p e R s m args below meth cd ad0 g0 Cc H locs cells slots ad L hP hL hl hss
  have hi : i < cnt k := oks_hd (oks_tl hss)
  obtain ⟨h1, h2⟩ := in_of hj hn hs
  refine W.iald (v := .int (Int32.ofInt (N k i n))) Cc.1 Cc.2.1 (hold_i hP.1 hi hk) ((Cc.2.2.2.2.2.2.2.1.2 0 _ rfl).1 _ _) (fun q => by cases q) (by rw [arrV_size]; exact h2) (by rw [h1, arrV_read _ _ hn]) rfl rfl d ?_
  exact kk p e R s m args below meth cd ad0 g0 Cc H locs cells slots ad L hP hL hl (oks_cons trivial (oks_tl (oks_tl hss)))
theorem r_lald {k i n : Nat} {j : Int} (hj : j = (n : Int)) (hn : n < ln g k i) (hs : n < 2 ^ 31) (hk : kd k = (2, 1)) (hat : At Y pc .laload 1 pc') (kk : AW K Y h Q pc' ls (vl (N k i n) :: st) N g) : AW K Y h Q pc ls (vi j :: vr k i :: st) N g := by
  obtain ⟨d, rfl⟩ := hat
  intro p e R s m args below meth cd ad0 g0 Cc H locs cells slots ad L hP hL hl hss
  have hi : i < cnt k := oks_hd (oks_tl hss)
  obtain ⟨h1, h2⟩ := in_of hj hn hs
  refine W.lald (v := .long (Int64.ofInt (N k i n))) Cc.1 Cc.2.1 (hold_l hP.1 hi hk) ((Cc.2.2.2.2.2.2.2.1.2 1 _ rfl).1 _ _) (fun q => by cases q) (by rw [arrV_size]; exact h2) (by rw [h1, arrV_read _ _ hn]) rfl rfl d ?_
  exact kk p e R s m args below meth cd ad0 g0 Cc H locs cells slots ad L hP hL hl (oks_cons trivial (oks_tl (oks_tl hss)))
theorem r_aald {k i n c : Nat} {ty : FieldType} {j : Int} {k' i' : Nat} (hj : j = (n : Int)) (hn : n < ln g k i) (hs : n < 2 ^ 31) (hk : kd k = (3, c)) (ht : (tysK K)[c]? = some (K.2.2.2 c, ty)) (hty : ty.isReference = true) (hr : rf g k i n = (k', i')) (hok : i < cnt k → n < ln g k i → i' < cnt k') (hat : At Y pc .aaload 1 pc') (kk : AW K Y h Q pc' ls (vr k' i' :: st) N g) : AW K Y h Q pc ls (vi j :: vr k i :: st) N g := by
  obtain ⟨d, rfl⟩ := hat
  intro p e R s m args below meth cd ad0 g0 Cc H locs cells slots ad L hP hL hl hss
  have hi : i < cnt k := oks_hd (oks_tl hss)
  obtain ⟨h1, h2⟩ := in_of hj hn hs
  refine W.aald (v := .ref (ad k' i')) (ty := ty) Cc.1 Cc.2.1 (hold_r hP.1 hi hk) ((Cc.2.2.2.2.2.2.2.1.2 c _ ht).1 _ _) hty (fun q => by cases q) (by rw [arrV_size]; exact h2) (by rw [h1, arrV_read _ _ hn, hr]) rfl rfl d ?_
  exact kk p e R s m args below meth cd ad0 g0 Cc H locs cells slots ad L hP hL hl (oks_cons (hok hi hn) (oks_tl (oks_tl hss)))
/-- an array's place is written -/
theorem r_iast {k i n : Nat} {j v : Int} (hj : j = (n : Int)) (hn : n < ln g k i) (hs : n < 2 ^ 31) (hk : kd k = (1, 0)) (hat : At Y pc .iastore 1 pc') (kk : AW K Y h Q pc' ls st (upN N k i n v) g) : AW K Y h Q pc ls (vi v :: vi j :: vr k i :: st) N g := by
  obtain ⟨d, rfl⟩ := hat
  intro p e R s m args below meth cd ad0 g0 Cc H locs cells slots ad L hP hL hl hss
  have hi : i < cnt k := oks_hd (oks_tl (oks_tl hss))
  obtain ⟨h1, h2⟩ := in_of hj hn hs
  refine W.iast Cc.1 Cc.2.1 (hold_i hP.1 hi hk) ((Cc.2.2.2.2.2.2.2.1.2 0 _ rfl).1 _ _) (fun q => by cases q) (by rw [arrV_size]; exact h2) rfl rfl d fun H' e1 e2 e3 => ?_
  refine kk p e R s m args below meth cd ad0 g0 Cc H' _ cells slots ad L (hP.put (j := n) (v := v) (fun e61 => by rw [e61] at hk; cases hk) hi ?_ e2 e3) hL hl (oks_tl (oks_tl (oks_tl hss)))
  unfold hcell
  rw [hk]
  show H'[ad k i]? = _
  rw [e1, h1, arrV_store]
  congr 2
  funext q
  by_cases e : q = n
  · subst e; simp [updV, upN]
  · simp only [updV, if_neg e, upN_j e]
theorem r_last {k i n : Nat} {j v : Int} (hj : j = (n : Int)) (hn : n < ln g k i) (hs : n < 2 ^ 31) (hk : kd k = (2, 1)) (hat : At Y pc .lastore 1 pc') (kk : AW K Y h Q pc' ls st (upN N k i n v) g) : AW K Y h Q pc ls (vl v :: vi j :: vr k i :: st) N g := by
  obtain ⟨d, rfl⟩ := hat
  intro p e R s m args below meth cd ad0 g0 Cc H locs cells slots ad L hP hL hl hss
  have hi : i < cnt k := oks_hd (oks_tl (oks_tl hss))
  obtain ⟨h1, h2⟩ := in_of hj hn hs
  refine W.last Cc.1 Cc.2.1 (hold_l hP.1 hi hk) ((Cc.2.2.2.2.2.2.2.1.2 1 _ rfl).1 _ _) (fun q => by cases q) (by rw [arrV_size]; exact h2) rfl rfl d fun H' e1 e2 e3 => ?_
  refine kk p e R s m args below meth cd ad0 g0 Cc H' _ cells slots ad L (hP.put (j := n) (v := v) (fun e61 => by rw [e61] at hk; cases hk) hi ?_ e2 e3) hL hl (oks_tl (oks_tl (oks_tl hss)))
  unfold hcell
  rw [hk]
  show H'[ad k i]? = _
  rw [e1, h1, arrV_store]
  congr 2
  funext q
  by_cases e : q = n
  · subst e; simp [updV, upN]
  · simp only [updV, if_neg e, upN_j e]
/-- the script is read -/
theorem hold_s {ad : Nat → Nat → Nat} {H : Heap} (hH : Hold K g N ad H) : scr H (ad 61 0) (K.2.2.2 5) (N 61 1 0).toNat (fun j => .int (Int32.ofInt (N 61 0 j))) := (hH.2.1 61 0 (by decide)).2
theorem r_sald {n : Nat} {j : Int} (hj : j = (n : Int)) (hn : n < (N 61 1 0).toNat) (hs : n < 2 ^ 31) (hat : At Y pc .iaload 1 pc') (kk : AW K Y h Q pc' ls (vi (N 61 0 n) :: st) N g) : AW K Y h Q pc ls (vi j :: vr 61 0 :: st) N g := by
  obtain ⟨d, rfl⟩ := hat
  intro p e R s m args below meth cd ad0 g0 Cc H locs cells slots ad L hP hL hl hss
  obtain ⟨h1, h2⟩ := in_of hj hn hs
  obtain ⟨cell, c1, c2, c3, c4, c5, c6⟩ := hold_s hP.1
  refine W.iald (v := .int (Int32.ofInt (N 61 0 n))) Cc.1 Cc.2.1 c1 ⟨c4, by rw [c2]; exact Cc.2.2.2.2.2.2.2.2.2.2.2.2.2.2.2.2.2.2.2.2⟩ c3 (by rw [c5]; exact h2) (by rw [h1]; exact c6 n hn) rfl rfl d ?_
  exact kk p e R s m args below meth cd ad0 g0 Cc H locs cells slots ad L hP hL hl (oks_cons trivial (oks_tl (oks_tl hss)))
/-- an array's length -/
theorem r_alen {k i c : Nat} (hk : kd k = (1, c) ∨ kd k = (2, c)) (ht : c = 0 ∨ c = 1) (hat : At Y pc .arraylength 1 pc') (kk : AW K Y h Q pc' ls (vi (ln g k i) :: st) N g) : AW K Y h Q pc ls (vr k i :: st) N g := by
  obtain ⟨d, rfl⟩ := hat
  intro p e R s m args below meth cd ad0 g0 Cc H locs cells slots ad L hP hL hl hss
  have hi : i < cnt k := oks_hd hss
  have k2 := kk p e R s m args below meth cd ad0 g0 Cc H locs cells slots ad L hP hL hl (oks_cons trivial (oks_tl hss))
  have hA : ∃ ty, ArrOfT s (K.2.2.2 c) ty := by
    rcases ht with rfl | rfl
    · exact ⟨_, (Cc.2.2.2.2.2.2.2.1.2 0 _ rfl).1⟩
    · exact ⟨_, (Cc.2.2.2.2.2.2.2.1.2 1 _ rfl).1⟩
  obtain ⟨ty, hA⟩ := hA
  rcases hk with hk | hk
  · exact W.alen (n := Int32.ofInt (ln g k i)) Cc.1 Cc.2.1 (hold_i hP.1 hi hk) (hA _ _) (by rw [arrV_size] <;> rfl) rfl rfl d k2
  · exact W.alen (n := Int32.ofInt (ln g k i)) Cc.1 Cc.2.1 (hold_l hP.1 hi hk) (hA _ _) (by rw [arrV_size] <;> rfl) rfl rfl d k2
theorem r_slen (hat : At Y pc .arraylength 1 pc') (kk : AW K Y h Q pc' ls (vi ((N 61 1 0).toNat : Int) :: st) N g) : AW K Y h Q pc ls (vr 61 0 :: st) N g := by
  obtain ⟨d, rfl⟩ := hat
  intro p e R s m args below meth cd ad0 g0 Cc H locs cells slots ad L hP hL hl hss
  have k2 := kk p e R s m args below meth cd ad0 g0 Cc H locs cells slots ad L hP hL hl (oks_cons trivial (oks_tl hss))
  obtain ⟨cell, c1, c2, c3, c4, c5, c6⟩ := hold_s hP.1
  exact W.alen (n := Int32.ofInt ((N 61 1 0).toNat : Int)) Cc.1 Cc.2.1 c1 ⟨c4, by rw [c2]; exact Cc.2.2.2.2.2.2.2.2.2.2.2.2.2.2.2.2.2.2.2.2⟩ (by rw [c5] <;> rfl) rfl rfl d k2
end Rows3
