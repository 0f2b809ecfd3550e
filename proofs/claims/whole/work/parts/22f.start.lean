/-! own text, printed by wip/whole/gen/mk22f.py: what the start gives, the three makings, the claim's start -/
theorem kLL_8 : Cond.classLink RL 8 RX9 ∈ TW := tw_t 23 (by decide +kernel) (by decide +kernel)
theorem kLL_16 : Cond.classLink RL 16 RX10 ∈ TW := tw_t 1026 (by decide +kernel) (by decide +kernel)
theorem kTh : Cond.initialized Bundle.tN ∈ TW := tw_t 13 (by decide +kernel) (by decide +kernel)
set_option maxHeartbeats 4000000 in
theorem st_K {s : State} {b L : Nat} {xs : Nat → Int32} (l : Launch) (hflags : l.flags = flags0) (hts : ∀ w ∈ lw_tbl, w.before #[Value.ref b] s = true) (hX : va_X b L xs s s.heap) (hgv : (Jvm.Cond.and given_1 narrow_1).before #[Value.ref b] s = true) :
    ∃ K : Kx, K.1 = l ∧ K.2.1 = s.heap.size ∧ KK K s ∧ RK K s ∧ ZK K s s.heap ∧ scr s.heap b (K.2.2.2 5) L (fun j => .int (xs j)) := by
  have htw : ∀ w ∈ TW, w.before #[Value.ref b] s = true := fun w hw => hts w (tw_tbl hw)
  obtain ⟨c0, i0, k0⟩ := u_known htw kWX1 (htw _ kZX1)
  obtain ⟨c1, i1, k1⟩ := u_known htw kWX2 (htw _ kZX2)
  obtain ⟨c2, i2, k2⟩ := u_known htw kWX3 (htw _ kZX3)
  obtain ⟨c3, i3, k3⟩ := u_known htw kWX4 (htw _ kZX4)
  obtain ⟨c4, i4, k4⟩ := u_known htw kWX5 (htw _ kZX5)
  obtain ⟨c5, i5, k5⟩ := u_known htw kWX6 (htw _ kZX6)
  obtain ⟨c6, i6, k6⟩ := u_known htw kWX8 (htw _ kZX8)
  obtain ⟨c7, i7, k7⟩ := u_known htw kWX9 (htw _ kZX9)
  obtain ⟨c8, i8, k8⟩ := u_known htw kWX10 (htw _ kZX10)
  obtain ⟨cI, kI, xI, fI, gI, hI⟩ := Cond.arrayClass_spec (htw _ kA_int)
  obtain ⟨cJ, kJ, xJ, fJ, gJ, hJ⟩ := Cond.arrayClass_spec (htw _ kA_long)
  have hAO : (Cond.arrayOver (.object RX1)).before #[Value.ref b] s = true := hts _ (List.mem_append_right _ (List.mem_of_getElem? (i := 85) (by decide +kernel)))
  obtain ⟨pL, cL, kL, a1, a2, a3, a4, a5⟩ := Cond.arrayOver_spec hAO
  have hAI : (Cond.arrayOver (.array .int)).before #[Value.ref b] s = true := hts _ (List.mem_append_right _ (List.mem_of_getElem? (i := 87) (by decide +kernel)))
  obtain ⟨pII, cII, kII, b1, b2, b3, b4, b5⟩ := arrayOverA_spec hAI
  have hAJ : (Cond.arrayOver (.array .long)).before #[Value.ref b] s = true := hts _ (List.mem_append_right _ (List.mem_of_getElem? (i := 175) (by decide +kernel)))
  obtain ⟨pJJ, cJJ, kJJ, d1, d2, d3, d4, d5⟩ := arrayOverA_spec hAJ
  have eI : pII = cI := Option.some.inj (b1.symm.trans fI)
  have eJ : pJJ = cJ := Option.some.inj (d1.symm.trans fJ)
  have hs := flat_of_before _ hgv
  obtain ⟨sc, s1, ⟨s2, kS, s3, xS, s4⟩, s5, s6, s7⟩ := hX
  have hst1 : (Cond.isRef (.static Bundle.tN "UNASSIGNED_STACK" Bundle.steD)).before #[Value.ref b] s = true := hs _ (by decide +kernel)
  have hst2 : (Cond.isRef (.static Bundle.tN "SUPPRESSED_SENTINEL" Bundle.listD)).before #[Value.ref b] s = true := hs _ (by decide +kernel)
  have hex : (Cond.exactly (Term.string "PayPromise" 117) "java/lang/String").before #[Value.ref b] s = true := hs _ (by decide +kernel)
  obtain ⟨sa, -, -, -, hsa, -⟩ := Cond.exactly_spec hex
  have hl1 : (Cond.laysStatic Bundle.tN "UNASSIGNED_STACK" Bundle.steD).before #[Value.ref b] s = true := hts _ (List.mem_append_right _ (List.mem_of_getElem? (i := 987) (by decide +kernel)))
  have hl2 : (Cond.laysStatic Bundle.tN "SUPPRESSED_SENTINEL" Bundle.listD).before #[Value.ref b] s = true := hts _ (List.mem_append_right _ (List.mem_of_getElem? (i := 989) (by decide +kernel)))
  have hsr : (Cond.stringRef RX9 117 "no such account, or nothing of it by this number").before #[Value.ref b] s = true := hts _ (List.mem_append_right _ (List.mem_of_getElem? (i := 999) (by decide +kernel)))
  have hca : (Cond.castable xN xN).before #[Value.ref b] s = true := hts _ (List.mem_append_right _ (List.mem_of_getElem? (i := 962) (by decide +kernel)))
  have hd1 : (Cond.declares (Bundle.initS "java/lang/RuntimeException")).before #[Value.ref b] s = true := hts _ (List.mem_append_right _ (List.mem_of_getElem? (i := 964) (by decide +kernel)))
  have hd2 : (Cond.declares (Bundle.initS "java/lang/Exception")).before #[Value.ref b] s = true := hts _ (List.mem_append_right _ (List.mem_of_getElem? (i := 966) (by decide +kernel)))
  have hd3 : (Cond.declares (Bundle.initS Bundle.tN)).before #[Value.ref b] s = true := hts _ (List.mem_append_right _ (List.mem_of_getElem? (i := 968) (by decide +kernel)))
  have hA : ∀ a : Nat, a < s.heap.size → ¬ (fun q => s.heap.size ≤ q) a := fun a h1 h2 => Nat.not_lt.mpr h2 h1
  have hno : l.stackTraces = false := by
    unfold Launch.stackTraces
    rw [hflags]
    decide +kernel
  refine ⟨(l, s.heap.size, (fun c => match c with | 0 => c0 | 1 => c1 | 2 => c2 | 3 => c3 | 4 => c4 | 5 => c5 | 6 => c6 | 7 => c7 | _ => c8, fun c => match c with | 0 => i0 | 1 => i1 | 2 => i2 | 3 => i3 | 4 => i4 | 5 => i5 | 6 => i6 | 7 => i7 | _ => i8), fun t => match t with | 0 => cI | 1 => cJ | 2 => cL | 3 => cII | 4 => cJJ | _ => sc.cls), rfl, rfl, ⟨fun c q hq => ?_, fun k q hq => ?_⟩, ⟨va_AO.of hAO, ⟨kII, b3, by rw [b4, eI] <;> rfl⟩, ⟨kJJ, d3, by rw [d4, eJ] <;> rfl⟩, fun q hq => ?_⟩, ⟨vx_Zqof hl1 (htw _ kTh) hst1 hA, vx_Zqof hl2 (htw _ kTh) hst2 hA, ⟨sa, vk_R.of hsr hsa⟩, hno, wd_cast (Vm.Alike.refl s.vm) hca, wd_decl (Vm.Alike.refl s.vm) hd1, wd_decl (Vm.Alike.refl s.vm) hd2, wd_decl (Vm.Alike.refl s.vm) hd3, kS, s3, xS, s4⟩, ⟨sc, s1, rfl, s5, s2, s6, s7⟩⟩
  · match c, hq with
    | 0, hq => cases hq; exact k0
    | 1, hq => cases hq; exact k1
    | 2, hq => cases hq; exact k2
    | 3, hq => cases hq; exact k3
    | 4, hq => cases hq; exact k4
    | 5, hq => cases hq; exact k5
    | 6, hq => cases hq; exact k6
    | 7, hq => cases hq; exact k7
    | 8, hq => cases hq; exact k8
    | _ + 9, hq => cases hq
  · match k, hq with
    | 0, hq => cases hq; exact ⟨fun n z => ⟨fun k h => (by cases h), kI, gI, xI, hI⟩, fI⟩
    | 1, hq => cases hq; exact ⟨fun n z => ⟨fun k h => (by cases h), kJ, gJ, xJ, hJ⟩, fJ⟩
    | 2, hq => cases hq; exact ⟨fun n z => ⟨fun k h => (by cases h), kL, a3, pL, a4⟩, kL, pL, a3, a4, a1, a5⟩
    | 3, hq => cases hq; exact ⟨fun n z => ⟨fun k h => (by cases h), kII, b3, pII, b4⟩, b5⟩
    | 4, hq => cases hq; exact ⟨fun n z => ⟨fun k h => (by cases h), kJJ, d3, pJJ, d4⟩, d5⟩
    | _ + 5, hq => cases hq
  · simp only [NQ, List.mem_cons, List.not_mem_nil, or_false] at hq
    rcases hq with rfl | rfl | rfl | rfl | rfl | rfl | rfl
    · exact va_Nw.of rfl (hts _ (List.mem_append_right _ (List.mem_of_getElem? (i := 33) (by decide +kernel))))
    · exact va_Nw.of rfl (hts _ (List.mem_append_right _ (List.mem_of_getElem? (i := 57) (by decide +kernel))))
    · exact va_Nw.of rfl (hts _ (List.mem_append_right _ (List.mem_of_getElem? (i := 89) (by decide +kernel))))
    · exact va_Nw.of rfl (hts _ (List.mem_append_right _ (List.mem_of_getElem? (i := 135) (by decide +kernel))))
    · exact va_Nw.of rfl (hts _ (List.mem_append_right _ (List.mem_of_getElem? (i := 138) (by decide +kernel))))
    · exact va_Nw.of rfl (hts _ (List.mem_append_right _ (List.mem_of_getElem? (i := 153) (by decide +kernel))))
    · exact va_Nw.of rfl (hts _ (List.mem_append_right _ (List.mem_of_getElem? (i := 169) (by decide +kernel))))
def NN (L : Nat) (xs : Nat → Int32) : Nm := fun k i j => if k = 61 then (if i = 1 then (L : Int) else (xs j).toInt) else if k = 99 then (L : Int) else N0 k i j
def adS (K : Kx) (b : Nat) : Nat → Nat → Nat := fun k i => if k = 61 then b else K.2.1 + off k i
theorem adS_ne {K : Kx} {b k i : Nat} (h : k ≠ 61) : adS K b k i = K.2.1 + off k i := if_neg h
theorem NN_lo {L : Nat} {xs : Nat → Int32} {k i j : Nat} (h : k < 61) : NN L xs k i j = N0 k i j := by
  unfold NN
  rw [if_neg (by omega), if_neg (by omega)]
theorem st_hold {K : Kx} {H : Heap} {b L : Nat} {xs : Nat → Int32} (hC : CH K TM H) (hb : b < K.2.1) (hs : scr H b (K.2.2.2 5) L (fun j => .int (xs j))) : Hold K gS (NN L xs) (adS K b) H := by
  refine ⟨⟨by decide, by decide⟩, fun k i hi => ?_, fun k i k' i' hi hi' e => ?_⟩
  · have hk := cnt_61 hi
    by_cases h61 : k = 61
    · subst h61
      have hi0 : i < 1 := hi
      have h0 : i = 0 := by omega
      subst h0
      refine ⟨Nat.zero_le _, ?_⟩
      show scr H b (K.2.2.2 5) ((L : Int)).toNat (fun j => .int (Int32.ofInt (xs j).toInt))
      simp only [ofI, Int.toNat_natCast]
      exact hs
    · refine ⟨by rw [bs_ne h61, adS_ne h61]; exact Nat.le_add_right _ _, mk_cell hC (by omega) hi (fun j => NN_lo (by omega)) (fun k i h => adS_ne h)⟩
  · have hk := cnt_61 hi
    have hk' := cnt_61 hi'
    by_cases h61 : k = 61
    · by_cases h61' : k' = 61
      · subst h61; subst h61'
        have q1 : i < 1 := hi
        have q2 : i' < 1 := hi'
        exact ⟨rfl, by omega⟩
      · exfalso
        rw [adS_ne h61', show adS K b k i = b from if_pos h61] at e
        omega
    · by_cases h61' : k' = 61
      · exfalso
        rw [adS_ne h61, show adS K b k' i' = b from if_pos h61'] at e
        omega
      · rw [adS_ne h61, adS_ne h61'] at e
        have e1 : off k i = off k' i' := by omega
        have g1 := (chk_all k (by omega) i hi).2
        have g2 := (chk_all k' (by omega) i' hi').2
        rw [e1, g2] at g1
        exact ⟨(congrArg Prod.fst g1).symm, (congrArg Prod.snd g1).symm⟩
theorem N0_54 (j : Nat) : N0 54 0 j = 0 := by
  unfold N0
  rw [show TM[off 54 0]? = some (1, 0, 4, []) from oeq_eq (by decide +kernel)]
  rfl
theorem N0_19 (j : Nat) : N0 19 0 j = 0 := by
  unfold N0
  rw [show TM[off 19 0]? = some (1, 0, 4, []) from oeq_eq (by decide +kernel)]
  rfl
