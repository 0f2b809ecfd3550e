/-! own text, printed by wip/whole/gen/mk22f.py: the claim's start -/
theorem st_inv {L : Nat} {xs : Nat → Int32} : Inv (NN L xs) gS := by
  have e9 : NN L xs 0 0 9 = 0 := (NN_lo (by decide)).trans (by decide +kernel)
  have e22 : NN L xs 40 0 22 = 0 := (NN_lo (by decide)).trans (by decide +kernel)
  have e27 : NN L xs 40 0 27 = -1 := (NN_lo (by decide)).trans (by decide +kernel)
  have e1 : NN L xs 1 0 1 = ((0 : Nat) : Int) := (NN_lo (by decide)).trans (by decide +kernel)
  have e16 : NN L xs 16 0 1 = ((0 : Nat) : Int) := (NN_lo (by decide)).trans (by decide +kernel)
  have e2 : NN L xs 40 0 2 = ((0 : Nat) : Int) := (NN_lo (by decide)).trans (by decide +kernel)
  have e25 : NN L xs 40 0 25 = ((0 : Nat) : Int) := (NN_lo (by decide)).trans (by decide +kernel)
  refine ⟨dk0, fun _ => 0, 0, fun _ => 0, 0, ⟨⟨Or.inl e9, fun i _ => Or.inl rfl, fun h => ?_⟩, Or.inl ⟨rfl, rfl⟩, ⟨e1, by decide, fun j hj => absurd hj (Nat.not_lt_zero j)⟩, e16, by decide, fun j hj => absurd hj (Nat.not_lt_zero j)⟩, ⟨⟨Or.inl e22, e27, fun h => ?_⟩, ⟨e2, by decide, fun j hj => absurd hj (Nat.not_lt_zero j)⟩, e25, by decide, fun j hj => absurd hj (Nat.not_lt_zero j)⟩, by rw [e22, e9], fun k => ?_⟩
  · rw [e9] at h
    exact absurd h (by decide)
  · rw [e22] at h
    exact absurd h (by decide)
  · rw [NN_lo (by decide), NN_lo (by decide), N0_54, N0_19]
set_option maxHeartbeats 4000000 in
/-- from the entry, for every script of at most 3072 ints, the law comes to its end with true -/
theorem whole_start {p : Program} {e : Env} {s : State} {m : MethodId} {below : List Frame} {meth : Method} {c : Code} (l : Launch) (hflags : l.flags = flags0) {b L : Nat} {xs : Nat → Int32} (hL : L ≤ 3072) (C0 : lw_At p s m meth c b L xs) : W p l e room_1 s m #[Value.ref b] below meth c s.heap [] 0 0 (lw_Z below #[Value.ref b] s) (entryFrame m ([Value.ref b] : List Value).toArray 7) := by
  obtain ⟨hx, hb, hr, hml, hown, hts, hX, hbl, hlk, hgv⟩ := C0
  obtain ⟨K, rfl, hK1, hKK, hRK, hZK, hsc⟩ := st_K l hflags hts hX hgv
  have htw : ∀ w ∈ TW, w.before #[Value.ref b] s = true := fun w hw => hts w (tw_tbl hw)
  have C : Cy K YL_law 30 p room_1 s m #[Value.ref b] c := ⟨hx, hb, hml, hown, htw, hKK, hRK, by decide, by decide⟩
  rw [lg_entry_eq]
  have hl := lv_entry [Value.ref b] (n := 7) (Nat.le_of_ble_eq_true rfl)
  generalize (lg_sl [Value.ref b] ++ List.replicate (7 - (lg_sl [Value.ref b]).length) Slot.unset).toArray = ls at hl ⊢
  have hl : lv_has ls 7 [(0, .ref b)] := hl
  have hP0 : Ph K s [] s.heap [] := ⟨⟨hK1.symm, fun i d h => by cases h⟩, fun _ h => absurd h List.not_mem_nil, fun _ _ => rfl⟩
  refine w_new C hP0 (ci := 7) rfl kLL_8 kZX9 kNX9 kWX9 tyX9_ok (dfzX9 _) iL_law_0 (by decide) (by decide) (fun H1 hP1 => ?_)
  refine lv_dup hx hb iL_law_3.1 rfl ?_
  refine w_call (Y' := YX9_init) C hP1 (n := 0) n_X9 rfl (Or.inl kML_15) kIX9_init kCX9_init kNX9 rfl ⟨by decide +kernel, by decide +kernel, by decide +kernel⟩ (by decide) rfl (by decide) (Nat.le_of_ble_eq_true rfl) hl.1 iL_law_4 (by decide) (by decide) (fun H2 locs2 hP2 => ?_)
  have hP2 : Ph K s TM2 H2 locs2 := hP2
  refine lv_astore_n (lv' := [(1, .ref (K.2.1 + 0)), (0, .ref b)]) hx hb iL_law_7.1 rfl hl (by decide) rfl (fun ls hl => ?_)
  refine w_new C hP2 (ci := 8) rfl kLL_16 kZX10 kNX10 kWX10 tyX10_ok (dfzX10 _) iL_law_8 (by decide) (by decide) (fun H3 hP3 => ?_)
  have hP3 : Ph K s TM3 H3 locs2 := hP3
  rw [show TM2.length = 149 by decide +kernel]
  refine lv_dup hx hb iL_law_11.1 rfl ?_
  refine w_call (Y' := YX10_init) C hP3 (n := 149) n_X10 (oeq_eq (by decide +kernel)) (Or.inl kML_18) kIX10_init kCX10_init kNX10 rfl ⟨by decide +kernel, by decide +kernel, by decide +kernel⟩ (by decide) rfl (by decide) (Nat.le_of_ble_eq_true rfl) hl.1 iL_law_12 (by decide) (by decide) (fun H4 locs4 hP4 => ?_)
  have hP4 : Ph K s TM4 H4 locs4 := hP4
  refine lv_astore_n (lv' := [(2, .ref (K.2.1 + 149)), (1, .ref (K.2.1 + 0)), (0, .ref b)]) hx hb iL_law_15.1 rfl hl (by decide) rfl (fun ls hl => ?_)
  refine lv_iconst (v := 1) hx hb iL_law_16.1 rfl ?_
  refine w_newa C hP4 (atype := .long) (t0 := 1) (N := 1) kA_long (raL s hKK) rfl (by decide) (by decide) (by decide) iL_law_17 (by decide) (by decide) (fun H5 hP5 => ?_)
  have hP5 : Ph K s TM H5 locs4 := hP5
  rw [show TM4.length = 169 by decide +kernel]
  refine lv_astore_n (lv' := [(3, .ref (K.2.1 + 169)), (2, .ref (K.2.1 + 149)), (1, .ref (K.2.1 + 0)), (0, .ref b)]) hx hb iL_law_19.1 rfl hl (by decide) rfl (fun ls hl => ?_)
  refine lv_iconst (v := 0) hx hb iL_law_20.1 rfl ?_
  refine lv_istore (lv' := [(4, .int 0), (3, .ref (K.2.1 + 169)), (2, .ref (K.2.1 + 149)), (1, .ref (K.2.1 + 0)), (0, .ref b)]) hx hb iL_law_21.1 hl (by decide) rfl (fun ls hl => ?_)
  have hbK : b < K.2.1 := by rw [hK1]; exact hbl
  have hH : Hold K gS (NN L xs) (adS K b) H5 := st_hold hP5.1 hbK (hsc.to (hP5.2.2 b hbK))
  have hpot : pot2 (NN L xs) gS = 130944 + L := by
    show 130944 + ((L : Int)).toNat = _
    rw [Int.toNat_natCast]
  have hPx : Px K s (adS K b) 601024 (NN L xs) gS (adS K b) H5 locs4 170 22598 := ⟨hH, Agr.rf _, hP5.2.1, by rw [hP5.1.1, hK1]; exact Nat.le_add_right _ _, hP5.2.2, by rw [hpot]; omega, by rw [hpot]; omega, by rw [hK1]; exact Nat.le_refl _⟩
  have hCx : Cx K YL_law hL_law p room_1 s m #[Value.ref b] meth c 601024 := ⟨hx, hb, hml, hown, htw, hlk, hr, hKK, by decide, by decide, by decide, by decide, hZK⟩
  exact lw_go (len := L) hCx hK1 hPx (lv_sub hl [4, 3, 2, 1, 0] rfl) st_inv (fun j => rI_of (xs j)) (Int.toNat_natCast L) hL (by show (L : Int) ≤ 6 * (L : Int); omega)
