/-! own text, printed by wip/whole/gen/mk06h.py: Arrays.copyOf -/
theorem kA_int : Cond.arrayClass .int ∈ TW := tw_t 54 (by decide +kernel) (by decide +kernel)
theorem kA_long : Cond.arrayClass .long ∈ TW := tw_t 77 (by decide +kernel) (by decide +kernel)
theorem kMin_l : Cond.methodLink "java/util/Arrays" 304 Lib.Math.min.name ∈ TW := tw_t 461 (by decide +kernel) (by decide +kernel)
theorem kMin_s : Cond.static Lib.Math.min.name ∈ TW := tw_t 462 (by decide +kernel) (by decide +kernel)
theorem kMin_c : Cond.code Lib.Math.min.name Lib.Math.min.code 2 (some .int) ∈ TW := tw_t 463 (by decide +kernel) (by decide +kernel)
theorem kMath_i : Cond.initialized "java/lang/Math" ∈ TW := tw_t 11 (by decide +kernel) (by decide +kernel)
theorem kCp_l : Cond.methodLink "java/util/Arrays" 150 arraycopyName ∈ TW := tw_t 464 (by decide +kernel) (by decide +kernel)
theorem kCp_s : Cond.static arraycopyName ∈ TW := tw_t 465 (by decide +kernel) (by decide +kernel)
theorem kCp_n : Cond.native arraycopyName ∈ TW := tw_t 466 (by decide +kernel) (by decide +kernel)
theorem kSys_i : Cond.initialized "java/lang/System" ∈ TW := tw_t 12 (by decide +kernel) (by decide +kernel)
def CpIPre (K : Kx) (b r M : Nat) (f : Nat → Int32) : Array Value → State → Prop := fun a U => a = ([Value.ref b, .int (Int32.ofInt M)] : List Value).toArray ∧ KK K U ∧ U.heap[b]? = some (arrV (K.2.2.2 0) r (fun j => .int (f j))) ∧ K.2.1 ≤ b
def CpIQ (K : Kx) (b r M : Nat) (f : Nat → Int32) : Array Value → State → Outcome → State → Prop := fun _ st o t => o = .returned (some (.ref st.heap.size)) ∧ t.heap[st.heap.size]? = some (arrV (K.2.2.2 0) M (fun j => .int (if j < r then f j else 0))) ∧ st.heap.size ≤ t.heap.size ∧ ∀ q, q < st.heap.size → t.heap[q]? = st.heap[q]?
set_option maxHeartbeats 4000000 in
theorem cpI {K : Kx} {b r M : Nat} {f : Nat → Int32} (hrM : r < M) (hM : M ≤ 100000) : Met K.1 YJ7_copyOf_59c91.1 (wsY YJ7_copyOf_59c91) { frames := 1, cells := 1, slots := M, locals := 64 } (CpIPre K b r M f) (CpIQ K b r M f) 1 M (fun q => K.2.1 ≤ q) := by
  refine MetFree.of_bodySF (code := YJ7_copyOf_59c91.2.1) (maxLocals := YJ7_copyOf_59c91.2.2.1) (ret := YJ7_copyOf_59c91.2.2.2) (by decide +kernel) ?_ ?_
  · intro args s m h hn
    obtain ⟨meth, c, h1, h2, h3, h4, h5, h6, -, -⟩ := Cond.code_spec hn (atoms_spec (ws := wsY YJ7_copyOf_59c91) h _ List.mem_cons_self)
    exact ⟨meth, c, h1, h2, h3, h4, h5, h6⟩
  · intro p e s m args below meth c s₁ B hml hP _
    obtain ⟨rfl, hK, hH, hb0⟩ := hP
    have hh0 : s₁.heap = s.heap := by rw [B.state]; rfl
    have hts : ∀ w ∈ TW, w.before ([Value.ref b, .int (Int32.ofInt M)] : List Value).toArray s = true := fun w hw => atoms_spec (ws := wsY YJ7_copyOf_59c91) B.pre w (List.mem_cons_of_mem _ hw)
    have hx := B.exec
    have hb := B.bytes
    have hown : s.vm.findClass "java/util/Arrays" = some m.cls := findClass_of_methodNamed B.named
    have hbl : b < s.heap.size := (Array.getElem?_eq_some_iff.mp hH).1
    have hl := lv_entry ([Value.ref b, .int (Int32.ofInt M)]) (n := 3) (Nat.le_of_ble_eq_true rfl)
    have hA := (hK.2 0 _ rfl).1
    have hcM : (Int32.ofInt (M : Int)).toNatClampNeg = M := nI_clamp (by omega)
    have hcr : (Int32.ofInt (r : Int)).toNatClampNeg = r := nI_clamp (by omega)
    have hpM : ¬ Int32.ofInt (M : Int) < 0 := nI_pos (by omega)
    have hpr : ¬ Int32.ofInt (r : Int) < 0 := nI_pos (by omega)
    have k : W p K.1 e (headSpec (wsY YJ7_copyOf_59c91) { frames := 1, cells := 1, slots := M, locals := 64 }).room s m ([Value.ref b, .int (Int32.ofInt M)] : List Value).toArray below meth c s.heap [] 0 0 (MQ below (CpIQ K b r M f) ([Value.ref b, .int (Int32.ofInt M)] : List Value).toArray s 1 M (fun q => K.2.1 ≤ q)) (entryFrame m ([Value.ref b, .int (Int32.ofInt M)] : List Value).toArray 3) := by
      rw [lg_entry_eq]
      generalize (lg_sl ([Value.ref b, .int (Int32.ofInt M)]) ++ List.replicate (3 - (lg_sl ([Value.ref b, .int (Int32.ofInt M)])).length) Slot.unset).toArray = ls at hl ⊢
      have hl : lv_has ls 3 [(0, .ref b), (1, .int (Int32.ofInt M))] := hl
      refine lv_iload_n hx hb iJ7_copyOf_59c91_0.1 rfl (lv_at hl 1 rfl) ?_
      refine lv_aload_n hx hb iJ7_copyOf_59c91_1.1 rfl (lv_at hl 0 rfl) ?_
      refine W.alen (n := Int32.ofInt r) hx hb hH (hA _ _) (by rw [arrV_size] <;> rfl) rfl rfl iJ7_copyOf_59c91_2.1 ?_
      obtain ⟨off, dj, -, hoff⟩ := iJ7_copyOf_59c91_3
      refine lv_icmp_ne (tgt := 14) hx hb dj hoff (fun _ => ?_) (fun h => absurd ((eqI (a := (M : Int)) (b := (r : Int)) ⟨by omega, by omega⟩ ⟨by omega, by omega⟩).mp h) (by omega))
      refine lv_iload_n hx hb iJ7_copyOf_59c91_14.1 rfl (lv_at hl 1 rfl) ?_
      refine va_newaK (atype := .int) (N := M) hx hb (hts _ kA_int) rfl iJ7_copyOf_59c91_15.1 rfl hpM hcM (by show M * 4 ≤ _; omega) (by show 0 + 1 ≤ 1; omega) (by show 0 + M ≤ M; omega) rfl (fun H1 cA e1 z1 o1 hAr hNm => ?_)
      have hcA : cA = K.2.2.2 0 := by
        have h2 := (hK.2 0 _ rfl).2
        exact Option.some.inj (hNm.symm.trans h2)
      subst hcA
      show W p K.1 e _ s m _ below meth c H1 [] (0 + 1) (0 + M) _ (F0 m 17 ls [.ref s.heap.size])
      rw [show 0 + M = M from Nat.zero_add M]
      have hH1 : H1[b]? = some (arrV (K.2.2.2 0) r (fun j => .int (f j))) := (o1 b hbl).trans hH
      refine lv_astore_n (lv' := [(2, .ref s.heap.size), (0, .ref b), (1, .int (Int32.ofInt M))]) hx hb iJ7_copyOf_59c91_17.1 rfl hl (by decide) rfl (fun ls hl => ?_)
      refine lv_aload_n hx hb iJ7_copyOf_59c91_18.1 rfl (lv_at hl 1 rfl) ?_
      refine lv_iconst (v := 0) hx hb iJ7_copyOf_59c91_19.1 rfl ?_
      refine lv_aload_n hx hb iJ7_copyOf_59c91_20.1 rfl (lv_at hl 0 rfl) ?_
      refine lv_iconst (v := 0) hx hb iJ7_copyOf_59c91_21.1 rfl ?_
      refine lv_aload_n hx hb iJ7_copyOf_59c91_22.1 rfl (lv_at hl 1 rfl) ?_
      refine W.alen (n := Int32.ofInt r) hx hb hH1 (hA _ _) (by rw [arrV_size] <;> rfl) rfl rfl iJ7_copyOf_59c91_23.1 ?_
      refine lv_iload_n hx hb iJ7_copyOf_59c91_24.1 rfl (lv_at hl 2 rfl) ?_
      refine va_mmin hx hb (hml.trans hl.1.symm) hown (hts _ kMin_l) (hts _ kMin_s) (hts _ kMath_i) (hts _ kMin_c) (by show 1 ≤ 1; omega) (Nat.le_of_ble_eq_true rfl) (by show 1 ≤ 1; omega) (by show M ≤ M; omega) iJ7_copyOf_59c91_25.1 ?_
      rw [if_neg (fun h => absurd ((ltI (a := (M : Int)) (b := (r : Int)) ⟨by omega, by omega⟩ ⟨by omega, by omega⟩).mp h) (by omega))]
      have hP : va_P K.2.2.1 clsL [(b, .inl (K.2.2.2 0, r, .inl f)), (s.heap.size, .inl (K.2.2.2 0, M, .inl (fun _ => 0)))] H1 := by
        intro k q hk
        match k, hk with
        | 0, hk => cases hk; exact hH1
        | 1, hk => cases hk; exact e1
        | k + 2, hk => cases hk
      have hD : va_D (fun q => q = b ∨ s.heap.size ≤ q) [(b, .inl (K.2.2.2 0, r, .inl f)), (s.heap.size, .inl (K.2.2.2 0, M, .inl (fun _ => (0 : Int32))))] := by
        refine ⟨fun i j p q hi hj he => ?_, fun k q hk => ?_⟩
        · match i, j, hi, hj with
          | 0, 0, _, _ => rfl
          | 1, 1, _, _ => rfl
          | 0, 1, hi, hj => cases hi; cases hj; exact absurd he (by show b ≠ s.heap.size; omega)
          | 1, 0, hi, hj => cases hi; cases hj; exact absurd he (by show s.heap.size ≠ b; omega)
          | k + 2, _, hi, _ => cases hi
          | 0, k + 2, _, hj => cases hj
          | 1, k + 2, _, hj => cases hj
        · match k, hk with
          | 0, hk => cases hk; exact Or.inl rfl
          | 1, hk => cases hk; exact Or.inr (Nat.le_refl _)
          | k + 2, hk => cases hk
      have hS : va_S (fun q => q = b ∨ s.heap.size ≤ q) s.heap H1 [] := ⟨by rw [z1]; exact Nat.le_succ _, fun q hq _ => o1 q hq, fun l hl => absurd hl List.not_mem_nil⟩
      refine va_copyi (ty := .int) hx hb (hml.trans hl.1.symm) hown (hts _ kCp_l) (hts _ kCp_n) (hts _ kCp_s) (hts _ kSys_i) hK hP hD hS 0 1 0 0 rfl rfl rfl rfl rfl (show ¬ (0 : Int32) < 0 by decide) (show ¬ (0 : Int32) < 0 by decide) hpr (by rw [hcr]; show 0 + r ≤ r; omega) (by rw [hcr]; show 0 + r ≤ M; omega) (fun _ _ => rfl) (by show 1 ≤ 1; omega) (Nat.le_of_ble_eq_true rfl) iJ7_copyOf_59c91_28.1 (fun H2 locs2 hP2 hD2 hS2 => ?_)
      refine lv_aload_n hx hb iJ7_copyOf_59c91_31.1 rfl (lv_at hl 0 rfl) ?_
      have a2 : H2[s.heap.size]? = some (arrV (K.2.2.2 0) M (fun j => .int (if j < r then f j else 0))) := by
        have h2 := hP2 1 _ rfl
        have h3 : H2[s.heap.size]? = some (arrV (K.2.2.2 0) M (fun j => .int (va_cpy f (fun _ => 0) 0 0 (Int32.ofInt (r : Int)).toNatClampNeg j))) := h2
        rw [h3, hcr]
        congr 2
        funext j
        unfold va_cpy
        by_cases c : j < r
        · rw [if_pos ⟨Nat.zero_le _, by omega⟩, if_pos c, Nat.zero_add, Nat.sub_zero]
        · rw [if_neg (fun h => c (by omega)), if_neg c]
      have b2 : H2[b]? = s.heap[b]? := by
        have h2 : H2[b]? = some (arrV (K.2.2.2 0) r (fun j => .int (f j))) := hP2 0 _ rfl
        rw [h2, hH]
      refine W.aret (Qc := CpIQ K b r M f) (free := fun q => K.2.1 ≤ q) hx hb B.returns (Or.inr ⟨_, rfl⟩) (Or.inr ⟨_, rfl⟩) (fun t ht hW => ⟨rfl, by rw [ht]; exact a2, by rw [ht]; exact hS2.1, fun q hq => ?_⟩) (fun q hq => ?_) iJ7_copyOf_59c91_32.1 B.notSynchronized
      · rw [ht]
        by_cases e : q = b
        · rw [e]; exact b2
        · exact hS2.2.1 q hq (fun h => h.elim e (fun h => by omega))
      · rcases hS2.2.2 q hq with h | h
        · show K.2.1 ≤ q.base; rw [h]; exact hb0
        · show K.2.1 ≤ q.base; omega
    rw [← hh0] at k
    obtain ⟨t, a1, o, b1, b2, b3⟩ := k s₁ rfl (Stand.of_body B)
    exact ⟨t, o, a1, b1, b2, b3⟩
def CpLPre (K : Kx) (b r M : Nat) (f : Nat → Int64) : Array Value → State → Prop := fun a U => a = ([Value.ref b, .int (Int32.ofInt M)] : List Value).toArray ∧ KK K U ∧ U.heap[b]? = some (arrV (K.2.2.2 1) r (fun j => .long (f j))) ∧ K.2.1 ≤ b
def CpLQ (K : Kx) (b r M : Nat) (f : Nat → Int64) : Array Value → State → Outcome → State → Prop := fun _ st o t => o = .returned (some (.ref st.heap.size)) ∧ t.heap[st.heap.size]? = some (arrV (K.2.2.2 1) M (fun j => .long (if j < r then f j else 0))) ∧ st.heap.size ≤ t.heap.size ∧ ∀ q, q < st.heap.size → t.heap[q]? = st.heap[q]?
set_option maxHeartbeats 4000000 in
theorem cpL {K : Kx} {b r M : Nat} {f : Nat → Int64} (hrM : r < M) (hM : M ≤ 100000) : Met K.1 YJ7_copyOf_c38d5.1 (wsY YJ7_copyOf_c38d5) { frames := 1, cells := 1, slots := M, locals := 64 } (CpLPre K b r M f) (CpLQ K b r M f) 1 M (fun q => K.2.1 ≤ q) := by
  refine MetFree.of_bodySF (code := YJ7_copyOf_c38d5.2.1) (maxLocals := YJ7_copyOf_c38d5.2.2.1) (ret := YJ7_copyOf_c38d5.2.2.2) (by decide +kernel) ?_ ?_
  · intro args s m h hn
    obtain ⟨meth, c, h1, h2, h3, h4, h5, h6, -, -⟩ := Cond.code_spec hn (atoms_spec (ws := wsY YJ7_copyOf_c38d5) h _ List.mem_cons_self)
    exact ⟨meth, c, h1, h2, h3, h4, h5, h6⟩
  · intro p e s m args below meth c s₁ B hml hP _
    obtain ⟨rfl, hK, hH, hb0⟩ := hP
    have hh0 : s₁.heap = s.heap := by rw [B.state]; rfl
    have hts : ∀ w ∈ TW, w.before ([Value.ref b, .int (Int32.ofInt M)] : List Value).toArray s = true := fun w hw => atoms_spec (ws := wsY YJ7_copyOf_c38d5) B.pre w (List.mem_cons_of_mem _ hw)
    have hx := B.exec
    have hb := B.bytes
    have hown : s.vm.findClass "java/util/Arrays" = some m.cls := findClass_of_methodNamed B.named
    have hbl : b < s.heap.size := (Array.getElem?_eq_some_iff.mp hH).1
    have hl := lv_entry ([Value.ref b, .int (Int32.ofInt M)]) (n := 3) (Nat.le_of_ble_eq_true rfl)
    have hA := (hK.2 1 _ rfl).1
    have hcM : (Int32.ofInt (M : Int)).toNatClampNeg = M := nI_clamp (by omega)
    have hcr : (Int32.ofInt (r : Int)).toNatClampNeg = r := nI_clamp (by omega)
    have hpM : ¬ Int32.ofInt (M : Int) < 0 := nI_pos (by omega)
    have hpr : ¬ Int32.ofInt (r : Int) < 0 := nI_pos (by omega)
    have k : W p K.1 e (headSpec (wsY YJ7_copyOf_c38d5) { frames := 1, cells := 1, slots := M, locals := 64 }).room s m ([Value.ref b, .int (Int32.ofInt M)] : List Value).toArray below meth c s.heap [] 0 0 (MQ below (CpLQ K b r M f) ([Value.ref b, .int (Int32.ofInt M)] : List Value).toArray s 1 M (fun q => K.2.1 ≤ q)) (entryFrame m ([Value.ref b, .int (Int32.ofInt M)] : List Value).toArray 3) := by
      rw [lg_entry_eq]
      generalize (lg_sl ([Value.ref b, .int (Int32.ofInt M)]) ++ List.replicate (3 - (lg_sl ([Value.ref b, .int (Int32.ofInt M)])).length) Slot.unset).toArray = ls at hl ⊢
      have hl : lv_has ls 3 [(0, .ref b), (1, .int (Int32.ofInt M))] := hl
      refine lv_iload_n hx hb iJ7_copyOf_c38d5_0.1 rfl (lv_at hl 1 rfl) ?_
      refine lv_aload_n hx hb iJ7_copyOf_c38d5_1.1 rfl (lv_at hl 0 rfl) ?_
      refine W.alen (n := Int32.ofInt r) hx hb hH (hA _ _) (by rw [arrV_size] <;> rfl) rfl rfl iJ7_copyOf_c38d5_2.1 ?_
      obtain ⟨off, dj, -, hoff⟩ := iJ7_copyOf_c38d5_3
      refine lv_icmp_ne (tgt := 14) hx hb dj hoff (fun _ => ?_) (fun h => absurd ((eqI (a := (M : Int)) (b := (r : Int)) ⟨by omega, by omega⟩ ⟨by omega, by omega⟩).mp h) (by omega))
      refine lv_iload_n hx hb iJ7_copyOf_c38d5_14.1 rfl (lv_at hl 1 rfl) ?_
      refine va_newaK (atype := .long) (N := M) hx hb (hts _ kA_long) rfl iJ7_copyOf_c38d5_15.1 rfl hpM hcM (by show M * 8 ≤ _; omega) (by show 0 + 1 ≤ 1; omega) (by show 0 + M ≤ M; omega) rfl (fun H1 cA e1 z1 o1 hAr hNm => ?_)
      have hcA : cA = K.2.2.2 1 := by
        have h2 := (hK.2 1 _ rfl).2
        exact Option.some.inj (hNm.symm.trans h2)
      subst hcA
      show W p K.1 e _ s m _ below meth c H1 [] (0 + 1) (0 + M) _ (F0 m 17 ls [.ref s.heap.size])
      rw [show 0 + M = M from Nat.zero_add M]
      have hH1 : H1[b]? = some (arrV (K.2.2.2 1) r (fun j => .long (f j))) := (o1 b hbl).trans hH
      refine lv_astore_n (lv' := [(2, .ref s.heap.size), (0, .ref b), (1, .int (Int32.ofInt M))]) hx hb iJ7_copyOf_c38d5_17.1 rfl hl (by decide) rfl (fun ls hl => ?_)
      refine lv_aload_n hx hb iJ7_copyOf_c38d5_18.1 rfl (lv_at hl 1 rfl) ?_
      refine lv_iconst (v := 0) hx hb iJ7_copyOf_c38d5_19.1 rfl ?_
      refine lv_aload_n hx hb iJ7_copyOf_c38d5_20.1 rfl (lv_at hl 0 rfl) ?_
      refine lv_iconst (v := 0) hx hb iJ7_copyOf_c38d5_21.1 rfl ?_
      refine lv_aload_n hx hb iJ7_copyOf_c38d5_22.1 rfl (lv_at hl 1 rfl) ?_
      refine W.alen (n := Int32.ofInt r) hx hb hH1 (hA _ _) (by rw [arrV_size] <;> rfl) rfl rfl iJ7_copyOf_c38d5_23.1 ?_
      refine lv_iload_n hx hb iJ7_copyOf_c38d5_24.1 rfl (lv_at hl 2 rfl) ?_
      refine va_mmin hx hb (hml.trans hl.1.symm) hown (hts _ kMin_l) (hts _ kMin_s) (hts _ kMath_i) (hts _ kMin_c) (by show 1 ≤ 1; omega) (Nat.le_of_ble_eq_true rfl) (by show 1 ≤ 1; omega) (by show M ≤ M; omega) iJ7_copyOf_c38d5_25.1 ?_
      rw [if_neg (fun h => absurd ((ltI (a := (M : Int)) (b := (r : Int)) ⟨by omega, by omega⟩ ⟨by omega, by omega⟩).mp h) (by omega))]
      have hP : va_P K.2.2.1 clsL [(b, .inl (K.2.2.2 1, r, .inr <| .inl f)), (s.heap.size, .inl (K.2.2.2 1, M, .inr <| .inl (fun _ => 0)))] H1 := by
        intro k q hk
        match k, hk with
        | 0, hk => cases hk; exact hH1
        | 1, hk => cases hk; exact e1
        | k + 2, hk => cases hk
      have hD : va_D (fun q => q = b ∨ s.heap.size ≤ q) [(b, .inl (K.2.2.2 1, r, .inr <| .inl f)), (s.heap.size, .inl (K.2.2.2 1, M, .inr <| .inl (fun _ => (0 : Int64))))] := by
        refine ⟨fun i j p q hi hj he => ?_, fun k q hk => ?_⟩
        · match i, j, hi, hj with
          | 0, 0, _, _ => rfl
          | 1, 1, _, _ => rfl
          | 0, 1, hi, hj => cases hi; cases hj; exact absurd he (by show b ≠ s.heap.size; omega)
          | 1, 0, hi, hj => cases hi; cases hj; exact absurd he (by show s.heap.size ≠ b; omega)
          | k + 2, _, hi, _ => cases hi
          | 0, k + 2, _, hj => cases hj
          | 1, k + 2, _, hj => cases hj
        · match k, hk with
          | 0, hk => cases hk; exact Or.inl rfl
          | 1, hk => cases hk; exact Or.inr (Nat.le_refl _)
          | k + 2, hk => cases hk
      have hS : va_S (fun q => q = b ∨ s.heap.size ≤ q) s.heap H1 [] := ⟨by rw [z1]; exact Nat.le_succ _, fun q hq _ => o1 q hq, fun l hl => absurd hl List.not_mem_nil⟩
      refine va_copyl (ty := .long) hx hb (hml.trans hl.1.symm) hown (hts _ kCp_l) (hts _ kCp_n) (hts _ kCp_s) (hts _ kSys_i) hK hP hD hS 0 1 1 1 rfl rfl rfl rfl rfl (show ¬ (0 : Int32) < 0 by decide) (show ¬ (0 : Int32) < 0 by decide) hpr (by rw [hcr]; show 0 + r ≤ r; omega) (by rw [hcr]; show 0 + r ≤ M; omega) (fun _ _ => rfl) (by show 1 ≤ 1; omega) (Nat.le_of_ble_eq_true rfl) iJ7_copyOf_c38d5_28.1 (fun H2 locs2 hP2 hD2 hS2 => ?_)
      refine lv_aload_n hx hb iJ7_copyOf_c38d5_31.1 rfl (lv_at hl 0 rfl) ?_
      have a2 : H2[s.heap.size]? = some (arrV (K.2.2.2 1) M (fun j => .long (if j < r then f j else 0))) := by
        have h2 := hP2 1 _ rfl
        have h3 : H2[s.heap.size]? = some (arrV (K.2.2.2 1) M (fun j => .long (va_cpy f (fun _ => 0) 0 0 (Int32.ofInt (r : Int)).toNatClampNeg j))) := h2
        rw [h3, hcr]
        congr 2
        funext j
        unfold va_cpy
        by_cases c : j < r
        · rw [if_pos ⟨Nat.zero_le _, by omega⟩, if_pos c, Nat.zero_add, Nat.sub_zero]
        · rw [if_neg (fun h => c (by omega)), if_neg c]
      have b2 : H2[b]? = s.heap[b]? := by
        have h2 : H2[b]? = some (arrV (K.2.2.2 1) r (fun j => .long (f j))) := hP2 0 _ rfl
        rw [h2, hH]
      refine W.aret (Qc := CpLQ K b r M f) (free := fun q => K.2.1 ≤ q) hx hb B.returns (Or.inr ⟨_, rfl⟩) (Or.inr ⟨_, rfl⟩) (fun t ht hW => ⟨rfl, by rw [ht]; exact a2, by rw [ht]; exact hS2.1, fun q hq => ?_⟩) (fun q hq => ?_) iJ7_copyOf_c38d5_32.1 B.notSynchronized
      · rw [ht]
        by_cases e : q = b
        · rw [e]; exact b2
        · exact hS2.2.1 q hq (fun h => h.elim e (fun h => by omega))
      · rcases hS2.2.2 q hq with h | h
        · show K.2.1 ≤ q.base; rw [h]; exact hb0
        · show K.2.1 ≤ q.base; omega
    rw [← hh0] at k
    obtain ⟨t, a1, o, b1, b2, b3⟩ := k s₁ rfl (Stand.of_body B)
    exact ⟨t, o, a1, b1, b2, b3⟩
