/-! own text, printed by wip/whole/gen/rows_own.py: rows for places of locals, fields, arrays, methods -/
section Own
variable {K : Kx} {Y : Ys} {h : Nat} {Q : Qt} {pc pc' : Nat} {ls : List (Option AV)} {st : List AV} {N : Nm} {g : Ge}
theorem ld_i0 {z : Int} {t : List (Option AV)} (hat : At Y pc (.iload_n 0) 1 pc') (kk : AW K Y h Q pc' (some (vi z) :: t) (vi z :: st) N g) : AW K Y h Q pc (some (vi z) :: t) st N g := g_ild (i := 0) (Or.inr ⟨0, rfl, rfl, rfl⟩) hat rfl kk
theorem sv_i0 {z : Int} {x0 : Option AV} {t : List (Option AV)} (hn : 0 < Y.2.2.1) (hat : At Y pc (.istore_n 0) 1 pc') (kk : AW K Y h Q pc' (some (vi z) :: t) st N g) : AW K Y h Q pc (x0 :: t) (vi z :: st) N g := by
  refine g_ist (i := 0) hn (Or.inr ⟨0, rfl, rfl, rfl⟩) hat ⟨by simp, rfl, fun j q => by omega⟩ kk
theorem ld_l0 {z : Int} {t : List (Option AV)} (hat : At Y pc (.lload_n 0) 1 pc') (kk : AW K Y h Q pc' (some (vl z) :: t) (vl z :: st) N g) : AW K Y h Q pc (some (vl z) :: t) st N g := g_lld (i := 0) (Or.inr ⟨0, rfl, rfl, rfl⟩) hat rfl kk
theorem sv_l0 {z : Int} {x0 x1 : Option AV} {t : List (Option AV)} (hn : 1 < Y.2.2.1) (hat : At Y pc (.lstore_n 0) 1 pc') (kk : AW K Y h Q pc' (some (vl z) :: none :: t) st N g) : AW K Y h Q pc (x0 :: x1 :: t) (vl z :: st) N g := by
  refine g_lst (i := 0) hn (Or.inr ⟨0, rfl, rfl, rfl⟩) hat ⟨by simp, rfl, fun j q => by omega⟩ kk
theorem ld_a0 {k i : Nat} {t : List (Option AV)} (hat : At Y pc (.aload_n 0) 1 pc') (kk : AW K Y h Q pc' (some (vr k i) :: t) (vr k i :: st) N g) : AW K Y h Q pc (some (vr k i) :: t) st N g := g_ald (i := 0) (Or.inr ⟨0, rfl, rfl, rfl⟩) hat rfl kk
theorem sv_a0 {k i : Nat} {x0 : Option AV} {t : List (Option AV)} (hn : 0 < Y.2.2.1) (hat : At Y pc (.astore_n 0) 1 pc') (kk : AW K Y h Q pc' (some (vr k i) :: t) st N g) : AW K Y h Q pc (x0 :: t) (vr k i :: st) N g := by
  refine g_ast (i := 0) hn (Or.inr ⟨0, rfl, rfl, rfl⟩) hat ⟨by simp, rfl, fun j q => by omega⟩ kk
theorem ld_d0 {z : UInt64} {t : List (Option AV)} (hat : At Y pc (.dload_n 0) 1 pc') (kk : AW K Y h Q pc' (some (vd z) :: t) (vd z :: st) N g) : AW K Y h Q pc (some (vd z) :: t) st N g := g_dld (i := 0) (Or.inr ⟨0, rfl, rfl, rfl⟩) hat rfl kk
theorem sv_d0 {z : UInt64} {x0 x1 : Option AV} {t : List (Option AV)} (hn : 1 < Y.2.2.1) (hat : At Y pc (.dstore_n 0) 1 pc') (kk : AW K Y h Q pc' (some (vd z) :: none :: t) st N g) : AW K Y h Q pc (x0 :: x1 :: t) (vd z :: st) N g := by
  refine g_dst (i := 0) hn (Or.inr ⟨0, rfl, rfl, rfl⟩) hat ⟨by simp, rfl, fun j q => by omega⟩ kk
theorem ld_f0 {z : UInt32} {t : List (Option AV)} (hat : At Y pc (.fload_n 0) 1 pc') (kk : AW K Y h Q pc' (some (vf z) :: t) (vf z :: st) N g) : AW K Y h Q pc (some (vf z) :: t) st N g := g_fld (i := 0) (Or.inr ⟨0, rfl, rfl, rfl⟩) hat rfl kk
theorem inc_0 {z w : Int} {t : List (Option AV)} (hn : 0 < Y.2.2.1) (hat : At Y pc (.iinc 0 w) 3 pc') (kk : AW K Y h Q pc' (some (vi (z + w)) :: t) st N g) : AW K Y h Q pc (some (vi z) :: t) st N g := by
  refine g_iinc (i := 0) hn hat rfl ⟨by simp, rfl, fun j q => by omega⟩ kk
theorem fg_0 {x0 : Option AV} {t : List (Option AV)} (kk : AW K Y h Q pc (none :: t) st N g) : AW K Y h Q pc (x0 :: t) st N g := by
  refine AW.forget (fun i v hv => ?_) kk
  by_cases e : i = 0
  · subst e; exact absurd (Option.some.inj hv) (by simp)
  · rcases i with _ | i
    · exact absurd rfl e
    · exact hv
theorem ld_i1 {z : Int} {x0 : Option AV} {t : List (Option AV)} (hat : At Y pc (.iload_n 1) 1 pc') (kk : AW K Y h Q pc' (x0 :: some (vi z) :: t) (vi z :: st) N g) : AW K Y h Q pc (x0 :: some (vi z) :: t) st N g := g_ild (i := 1) (Or.inr ⟨1, rfl, rfl, rfl⟩) hat rfl kk
theorem sv_i1 {z : Int} {x0 x1 : Option AV} {t : List (Option AV)} (hn : 1 < Y.2.2.1) (hx : c1 x0 = true) (hat : At Y pc (.istore_n 1) 1 pc') (kk : AW K Y h Q pc' (x0 :: some (vi z) :: t) st N g) : AW K Y h Q pc (x0 :: x1 :: t) (vi z :: st) N g := by
  refine g_ist (i := 1) hn (Or.inr ⟨1, rfl, rfl, rfl⟩) hat ⟨by simp, rfl, fun j q w hw => by
    have e : j = 0 := by omega
    subst e
    have hw : x0 = some w := Option.some.inj hw
    rw [hw] at hx
    exact beq_iff_eq.mp hx⟩ kk
theorem ld_l1 {z : Int} {x0 : Option AV} {t : List (Option AV)} (hat : At Y pc (.lload_n 1) 1 pc') (kk : AW K Y h Q pc' (x0 :: some (vl z) :: t) (vl z :: st) N g) : AW K Y h Q pc (x0 :: some (vl z) :: t) st N g := g_lld (i := 1) (Or.inr ⟨1, rfl, rfl, rfl⟩) hat rfl kk
theorem sv_l1 {z : Int} {x0 x1 x2 : Option AV} {t : List (Option AV)} (hn : 2 < Y.2.2.1) (hx : c1 x0 = true) (hat : At Y pc (.lstore_n 1) 1 pc') (kk : AW K Y h Q pc' (x0 :: some (vl z) :: none :: t) st N g) : AW K Y h Q pc (x0 :: x1 :: x2 :: t) (vl z :: st) N g := by
  refine g_lst (i := 1) hn (Or.inr ⟨1, rfl, rfl, rfl⟩) hat ⟨by simp, rfl, fun j q w hw => by
    have e : j = 0 := by omega
    subst e
    have hw : x0 = some w := Option.some.inj hw
    rw [hw] at hx
    exact beq_iff_eq.mp hx⟩ kk
theorem ld_a1 {k i : Nat} {x0 : Option AV} {t : List (Option AV)} (hat : At Y pc (.aload_n 1) 1 pc') (kk : AW K Y h Q pc' (x0 :: some (vr k i) :: t) (vr k i :: st) N g) : AW K Y h Q pc (x0 :: some (vr k i) :: t) st N g := g_ald (i := 1) (Or.inr ⟨1, rfl, rfl, rfl⟩) hat rfl kk
theorem sv_a1 {k i : Nat} {x0 x1 : Option AV} {t : List (Option AV)} (hn : 1 < Y.2.2.1) (hx : c1 x0 = true) (hat : At Y pc (.astore_n 1) 1 pc') (kk : AW K Y h Q pc' (x0 :: some (vr k i) :: t) st N g) : AW K Y h Q pc (x0 :: x1 :: t) (vr k i :: st) N g := by
  refine g_ast (i := 1) hn (Or.inr ⟨1, rfl, rfl, rfl⟩) hat ⟨by simp, rfl, fun j q w hw => by
    have e : j = 0 := by omega
    subst e
    have hw : x0 = some w := Option.some.inj hw
    rw [hw] at hx
    exact beq_iff_eq.mp hx⟩ kk
theorem ld_d1 {z : UInt64} {x0 : Option AV} {t : List (Option AV)} (hat : At Y pc (.dload_n 1) 1 pc') (kk : AW K Y h Q pc' (x0 :: some (vd z) :: t) (vd z :: st) N g) : AW K Y h Q pc (x0 :: some (vd z) :: t) st N g := g_dld (i := 1) (Or.inr ⟨1, rfl, rfl, rfl⟩) hat rfl kk
theorem sv_d1 {z : UInt64} {x0 x1 x2 : Option AV} {t : List (Option AV)} (hn : 2 < Y.2.2.1) (hx : c1 x0 = true) (hat : At Y pc (.dstore_n 1) 1 pc') (kk : AW K Y h Q pc' (x0 :: some (vd z) :: none :: t) st N g) : AW K Y h Q pc (x0 :: x1 :: x2 :: t) (vd z :: st) N g := by
  refine g_dst (i := 1) hn (Or.inr ⟨1, rfl, rfl, rfl⟩) hat ⟨by simp, rfl, fun j q w hw => by
    have e : j = 0 := by omega
    subst e
    have hw : x0 = some w := Option.some.inj hw
    rw [hw] at hx
    exact beq_iff_eq.mp hx⟩ kk
theorem ld_f1 {z : UInt32} {x0 : Option AV} {t : List (Option AV)} (hat : At Y pc (.fload_n 1) 1 pc') (kk : AW K Y h Q pc' (x0 :: some (vf z) :: t) (vf z :: st) N g) : AW K Y h Q pc (x0 :: some (vf z) :: t) st N g := g_fld (i := 1) (Or.inr ⟨1, rfl, rfl, rfl⟩) hat rfl kk
theorem inc_1 {z w : Int} {x0 : Option AV} {t : List (Option AV)} (hn : 1 < Y.2.2.1) (hx : c1 x0 = true) (hat : At Y pc (.iinc 1 w) 3 pc') (kk : AW K Y h Q pc' (x0 :: some (vi (z + w)) :: t) st N g) : AW K Y h Q pc (x0 :: some (vi z) :: t) st N g := by
  refine g_iinc (i := 1) hn hat rfl ⟨by simp, rfl, fun j q w hw => by
    have e : j = 0 := by omega
    subst e
    have hw : x0 = some w := Option.some.inj hw
    rw [hw] at hx
    exact beq_iff_eq.mp hx⟩ kk
theorem fg_1 {x0 x1 : Option AV} {t : List (Option AV)} (kk : AW K Y h Q pc (x0 :: none :: t) st N g) : AW K Y h Q pc (x0 :: x1 :: t) st N g := by
  refine AW.forget (fun i v hv => ?_) kk
  by_cases e : i = 1
  · subst e; exact absurd (Option.some.inj hv) (by simp)
  · revert e hv
    rcases i with _ | _ | i
    all_goals intro hv e
    all_goals first | exact hv | exact absurd rfl e
theorem ld_i2 {z : Int} {x0 x1 : Option AV} {t : List (Option AV)} (hat : At Y pc (.iload_n 2) 1 pc') (kk : AW K Y h Q pc' (x0 :: x1 :: some (vi z) :: t) (vi z :: st) N g) : AW K Y h Q pc (x0 :: x1 :: some (vi z) :: t) st N g := g_ild (i := 2) (Or.inr ⟨2, rfl, rfl, rfl⟩) hat rfl kk
theorem sv_i2 {z : Int} {x0 x1 x2 : Option AV} {t : List (Option AV)} (hn : 2 < Y.2.2.1) (hx : c1 x1 = true) (hat : At Y pc (.istore_n 2) 1 pc') (kk : AW K Y h Q pc' (x0 :: x1 :: some (vi z) :: t) st N g) : AW K Y h Q pc (x0 :: x1 :: x2 :: t) (vi z :: st) N g := by
  refine g_ist (i := 2) hn (Or.inr ⟨2, rfl, rfl, rfl⟩) hat ⟨by simp, rfl, fun j q w hw => by
    have e : j = 1 := by omega
    subst e
    have hw : x1 = some w := Option.some.inj hw
    rw [hw] at hx
    exact beq_iff_eq.mp hx⟩ kk
theorem ld_l2 {z : Int} {x0 x1 : Option AV} {t : List (Option AV)} (hat : At Y pc (.lload_n 2) 1 pc') (kk : AW K Y h Q pc' (x0 :: x1 :: some (vl z) :: t) (vl z :: st) N g) : AW K Y h Q pc (x0 :: x1 :: some (vl z) :: t) st N g := g_lld (i := 2) (Or.inr ⟨2, rfl, rfl, rfl⟩) hat rfl kk
theorem sv_l2 {z : Int} {x0 x1 x2 x3 : Option AV} {t : List (Option AV)} (hn : 3 < Y.2.2.1) (hx : c1 x1 = true) (hat : At Y pc (.lstore_n 2) 1 pc') (kk : AW K Y h Q pc' (x0 :: x1 :: some (vl z) :: none :: t) st N g) : AW K Y h Q pc (x0 :: x1 :: x2 :: x3 :: t) (vl z :: st) N g := by
  refine g_lst (i := 2) hn (Or.inr ⟨2, rfl, rfl, rfl⟩) hat ⟨by simp, rfl, fun j q w hw => by
    have e : j = 1 := by omega
    subst e
    have hw : x1 = some w := Option.some.inj hw
    rw [hw] at hx
    exact beq_iff_eq.mp hx⟩ kk
theorem ld_a2 {k i : Nat} {x0 x1 : Option AV} {t : List (Option AV)} (hat : At Y pc (.aload_n 2) 1 pc') (kk : AW K Y h Q pc' (x0 :: x1 :: some (vr k i) :: t) (vr k i :: st) N g) : AW K Y h Q pc (x0 :: x1 :: some (vr k i) :: t) st N g := g_ald (i := 2) (Or.inr ⟨2, rfl, rfl, rfl⟩) hat rfl kk
theorem sv_a2 {k i : Nat} {x0 x1 x2 : Option AV} {t : List (Option AV)} (hn : 2 < Y.2.2.1) (hx : c1 x1 = true) (hat : At Y pc (.astore_n 2) 1 pc') (kk : AW K Y h Q pc' (x0 :: x1 :: some (vr k i) :: t) st N g) : AW K Y h Q pc (x0 :: x1 :: x2 :: t) (vr k i :: st) N g := by
  refine g_ast (i := 2) hn (Or.inr ⟨2, rfl, rfl, rfl⟩) hat ⟨by simp, rfl, fun j q w hw => by
    have e : j = 1 := by omega
    subst e
    have hw : x1 = some w := Option.some.inj hw
    rw [hw] at hx
    exact beq_iff_eq.mp hx⟩ kk
theorem ld_d2 {z : UInt64} {x0 x1 : Option AV} {t : List (Option AV)} (hat : At Y pc (.dload_n 2) 1 pc') (kk : AW K Y h Q pc' (x0 :: x1 :: some (vd z) :: t) (vd z :: st) N g) : AW K Y h Q pc (x0 :: x1 :: some (vd z) :: t) st N g := g_dld (i := 2) (Or.inr ⟨2, rfl, rfl, rfl⟩) hat rfl kk
theorem sv_d2 {z : UInt64} {x0 x1 x2 x3 : Option AV} {t : List (Option AV)} (hn : 3 < Y.2.2.1) (hx : c1 x1 = true) (hat : At Y pc (.dstore_n 2) 1 pc') (kk : AW K Y h Q pc' (x0 :: x1 :: some (vd z) :: none :: t) st N g) : AW K Y h Q pc (x0 :: x1 :: x2 :: x3 :: t) (vd z :: st) N g := by
  refine g_dst (i := 2) hn (Or.inr ⟨2, rfl, rfl, rfl⟩) hat ⟨by simp, rfl, fun j q w hw => by
    have e : j = 1 := by omega
    subst e
    have hw : x1 = some w := Option.some.inj hw
    rw [hw] at hx
    exact beq_iff_eq.mp hx⟩ kk
theorem ld_f2 {z : UInt32} {x0 x1 : Option AV} {t : List (Option AV)} (hat : At Y pc (.fload_n 2) 1 pc') (kk : AW K Y h Q pc' (x0 :: x1 :: some (vf z) :: t) (vf z :: st) N g) : AW K Y h Q pc (x0 :: x1 :: some (vf z) :: t) st N g := g_fld (i := 2) (Or.inr ⟨2, rfl, rfl, rfl⟩) hat rfl kk
theorem inc_2 {z w : Int} {x0 x1 : Option AV} {t : List (Option AV)} (hn : 2 < Y.2.2.1) (hx : c1 x1 = true) (hat : At Y pc (.iinc 2 w) 3 pc') (kk : AW K Y h Q pc' (x0 :: x1 :: some (vi (z + w)) :: t) st N g) : AW K Y h Q pc (x0 :: x1 :: some (vi z) :: t) st N g := by
  refine g_iinc (i := 2) hn hat rfl ⟨by simp, rfl, fun j q w hw => by
    have e : j = 1 := by omega
    subst e
    have hw : x1 = some w := Option.some.inj hw
    rw [hw] at hx
    exact beq_iff_eq.mp hx⟩ kk
theorem fg_2 {x0 x1 x2 : Option AV} {t : List (Option AV)} (kk : AW K Y h Q pc (x0 :: x1 :: none :: t) st N g) : AW K Y h Q pc (x0 :: x1 :: x2 :: t) st N g := by
  refine AW.forget (fun i v hv => ?_) kk
  by_cases e : i = 2
  · subst e; exact absurd (Option.some.inj hv) (by simp)
  · revert e hv
    rcases i with _ | _ | _ | i
    all_goals intro hv e
    all_goals first | exact hv | exact absurd rfl e
theorem ld_i3 {z : Int} {x0 x1 x2 : Option AV} {t : List (Option AV)} (hat : At Y pc (.iload_n 3) 1 pc') (kk : AW K Y h Q pc' (x0 :: x1 :: x2 :: some (vi z) :: t) (vi z :: st) N g) : AW K Y h Q pc (x0 :: x1 :: x2 :: some (vi z) :: t) st N g := g_ild (i := 3) (Or.inr ⟨3, rfl, rfl, rfl⟩) hat rfl kk
theorem sv_i3 {z : Int} {x0 x1 x2 x3 : Option AV} {t : List (Option AV)} (hn : 3 < Y.2.2.1) (hx : c1 x2 = true) (hat : At Y pc (.istore_n 3) 1 pc') (kk : AW K Y h Q pc' (x0 :: x1 :: x2 :: some (vi z) :: t) st N g) : AW K Y h Q pc (x0 :: x1 :: x2 :: x3 :: t) (vi z :: st) N g := by
  refine g_ist (i := 3) hn (Or.inr ⟨3, rfl, rfl, rfl⟩) hat ⟨by simp, rfl, fun j q w hw => by
    have e : j = 2 := by omega
    subst e
    have hw : x2 = some w := Option.some.inj hw
    rw [hw] at hx
    exact beq_iff_eq.mp hx⟩ kk
theorem ld_l3 {z : Int} {x0 x1 x2 : Option AV} {t : List (Option AV)} (hat : At Y pc (.lload_n 3) 1 pc') (kk : AW K Y h Q pc' (x0 :: x1 :: x2 :: some (vl z) :: t) (vl z :: st) N g) : AW K Y h Q pc (x0 :: x1 :: x2 :: some (vl z) :: t) st N g := g_lld (i := 3) (Or.inr ⟨3, rfl, rfl, rfl⟩) hat rfl kk
theorem sv_l3 {z : Int} {x0 x1 x2 x3 x4 : Option AV} {t : List (Option AV)} (hn : 4 < Y.2.2.1) (hx : c1 x2 = true) (hat : At Y pc (.lstore_n 3) 1 pc') (kk : AW K Y h Q pc' (x0 :: x1 :: x2 :: some (vl z) :: none :: t) st N g) : AW K Y h Q pc (x0 :: x1 :: x2 :: x3 :: x4 :: t) (vl z :: st) N g := by
  refine g_lst (i := 3) hn (Or.inr ⟨3, rfl, rfl, rfl⟩) hat ⟨by simp, rfl, fun j q w hw => by
    have e : j = 2 := by omega
    subst e
    have hw : x2 = some w := Option.some.inj hw
    rw [hw] at hx
    exact beq_iff_eq.mp hx⟩ kk
theorem ld_a3 {k i : Nat} {x0 x1 x2 : Option AV} {t : List (Option AV)} (hat : At Y pc (.aload_n 3) 1 pc') (kk : AW K Y h Q pc' (x0 :: x1 :: x2 :: some (vr k i) :: t) (vr k i :: st) N g) : AW K Y h Q pc (x0 :: x1 :: x2 :: some (vr k i) :: t) st N g := g_ald (i := 3) (Or.inr ⟨3, rfl, rfl, rfl⟩) hat rfl kk
theorem sv_a3 {k i : Nat} {x0 x1 x2 x3 : Option AV} {t : List (Option AV)} (hn : 3 < Y.2.2.1) (hx : c1 x2 = true) (hat : At Y pc (.astore_n 3) 1 pc') (kk : AW K Y h Q pc' (x0 :: x1 :: x2 :: some (vr k i) :: t) st N g) : AW K Y h Q pc (x0 :: x1 :: x2 :: x3 :: t) (vr k i :: st) N g := by
  refine g_ast (i := 3) hn (Or.inr ⟨3, rfl, rfl, rfl⟩) hat ⟨by simp, rfl, fun j q w hw => by
    have e : j = 2 := by omega
    subst e
    have hw : x2 = some w := Option.some.inj hw
    rw [hw] at hx
    exact beq_iff_eq.mp hx⟩ kk
theorem ld_d3 {z : UInt64} {x0 x1 x2 : Option AV} {t : List (Option AV)} (hat : At Y pc (.dload_n 3) 1 pc') (kk : AW K Y h Q pc' (x0 :: x1 :: x2 :: some (vd z) :: t) (vd z :: st) N g) : AW K Y h Q pc (x0 :: x1 :: x2 :: some (vd z) :: t) st N g := g_dld (i := 3) (Or.inr ⟨3, rfl, rfl, rfl⟩) hat rfl kk
theorem sv_d3 {z : UInt64} {x0 x1 x2 x3 x4 : Option AV} {t : List (Option AV)} (hn : 4 < Y.2.2.1) (hx : c1 x2 = true) (hat : At Y pc (.dstore_n 3) 1 pc') (kk : AW K Y h Q pc' (x0 :: x1 :: x2 :: some (vd z) :: none :: t) st N g) : AW K Y h Q pc (x0 :: x1 :: x2 :: x3 :: x4 :: t) (vd z :: st) N g := by
  refine g_dst (i := 3) hn (Or.inr ⟨3, rfl, rfl, rfl⟩) hat ⟨by simp, rfl, fun j q w hw => by
    have e : j = 2 := by omega
    subst e
    have hw : x2 = some w := Option.some.inj hw
    rw [hw] at hx
    exact beq_iff_eq.mp hx⟩ kk
theorem ld_f3 {z : UInt32} {x0 x1 x2 : Option AV} {t : List (Option AV)} (hat : At Y pc (.fload_n 3) 1 pc') (kk : AW K Y h Q pc' (x0 :: x1 :: x2 :: some (vf z) :: t) (vf z :: st) N g) : AW K Y h Q pc (x0 :: x1 :: x2 :: some (vf z) :: t) st N g := g_fld (i := 3) (Or.inr ⟨3, rfl, rfl, rfl⟩) hat rfl kk
theorem inc_3 {z w : Int} {x0 x1 x2 : Option AV} {t : List (Option AV)} (hn : 3 < Y.2.2.1) (hx : c1 x2 = true) (hat : At Y pc (.iinc 3 w) 3 pc') (kk : AW K Y h Q pc' (x0 :: x1 :: x2 :: some (vi (z + w)) :: t) st N g) : AW K Y h Q pc (x0 :: x1 :: x2 :: some (vi z) :: t) st N g := by
  refine g_iinc (i := 3) hn hat rfl ⟨by simp, rfl, fun j q w hw => by
    have e : j = 2 := by omega
    subst e
    have hw : x2 = some w := Option.some.inj hw
    rw [hw] at hx
    exact beq_iff_eq.mp hx⟩ kk
theorem fg_3 {x0 x1 x2 x3 : Option AV} {t : List (Option AV)} (kk : AW K Y h Q pc (x0 :: x1 :: x2 :: none :: t) st N g) : AW K Y h Q pc (x0 :: x1 :: x2 :: x3 :: t) st N g := by
  refine AW.forget (fun i v hv => ?_) kk
  by_cases e : i = 3
  · subst e; exact absurd (Option.some.inj hv) (by simp)
  · revert e hv
    rcases i with _ | _ | _ | _ | i
    all_goals intro hv e
    all_goals first | exact hv | exact absurd rfl e
theorem ld_i4 {z : Int} {x0 x1 x2 x3 : Option AV} {t : List (Option AV)} (hat : At Y pc (.iload 4) 2 pc') (kk : AW K Y h Q pc' (x0 :: x1 :: x2 :: x3 :: some (vi z) :: t) (vi z :: st) N g) : AW K Y h Q pc (x0 :: x1 :: x2 :: x3 :: some (vi z) :: t) st N g := g_ild (i := 4) (Or.inl ⟨rfl, rfl⟩) hat rfl kk
theorem sv_i4 {z : Int} {x0 x1 x2 x3 x4 : Option AV} {t : List (Option AV)} (hn : 4 < Y.2.2.1) (hx : c1 x3 = true) (hat : At Y pc (.istore 4) 2 pc') (kk : AW K Y h Q pc' (x0 :: x1 :: x2 :: x3 :: some (vi z) :: t) st N g) : AW K Y h Q pc (x0 :: x1 :: x2 :: x3 :: x4 :: t) (vi z :: st) N g := by
  refine g_ist (i := 4) hn (Or.inl ⟨rfl, rfl⟩) hat ⟨by simp, rfl, fun j q w hw => by
    have e : j = 3 := by omega
    subst e
    have hw : x3 = some w := Option.some.inj hw
    rw [hw] at hx
    exact beq_iff_eq.mp hx⟩ kk
theorem ld_l4 {z : Int} {x0 x1 x2 x3 : Option AV} {t : List (Option AV)} (hat : At Y pc (.lload 4) 2 pc') (kk : AW K Y h Q pc' (x0 :: x1 :: x2 :: x3 :: some (vl z) :: t) (vl z :: st) N g) : AW K Y h Q pc (x0 :: x1 :: x2 :: x3 :: some (vl z) :: t) st N g := g_lld (i := 4) (Or.inl ⟨rfl, rfl⟩) hat rfl kk
theorem sv_l4 {z : Int} {x0 x1 x2 x3 x4 x5 : Option AV} {t : List (Option AV)} (hn : 5 < Y.2.2.1) (hx : c1 x3 = true) (hat : At Y pc (.lstore 4) 2 pc') (kk : AW K Y h Q pc' (x0 :: x1 :: x2 :: x3 :: some (vl z) :: none :: t) st N g) : AW K Y h Q pc (x0 :: x1 :: x2 :: x3 :: x4 :: x5 :: t) (vl z :: st) N g := by
  refine g_lst (i := 4) hn (Or.inl ⟨rfl, rfl⟩) hat ⟨by simp, rfl, fun j q w hw => by
    have e : j = 3 := by omega
    subst e
    have hw : x3 = some w := Option.some.inj hw
    rw [hw] at hx
    exact beq_iff_eq.mp hx⟩ kk
theorem ld_a4 {k i : Nat} {x0 x1 x2 x3 : Option AV} {t : List (Option AV)} (hat : At Y pc (.aload 4) 2 pc') (kk : AW K Y h Q pc' (x0 :: x1 :: x2 :: x3 :: some (vr k i) :: t) (vr k i :: st) N g) : AW K Y h Q pc (x0 :: x1 :: x2 :: x3 :: some (vr k i) :: t) st N g := g_ald (i := 4) (Or.inl ⟨rfl, rfl⟩) hat rfl kk
theorem sv_a4 {k i : Nat} {x0 x1 x2 x3 x4 : Option AV} {t : List (Option AV)} (hn : 4 < Y.2.2.1) (hx : c1 x3 = true) (hat : At Y pc (.astore 4) 2 pc') (kk : AW K Y h Q pc' (x0 :: x1 :: x2 :: x3 :: some (vr k i) :: t) st N g) : AW K Y h Q pc (x0 :: x1 :: x2 :: x3 :: x4 :: t) (vr k i :: st) N g := by
  refine g_ast (i := 4) hn (Or.inl ⟨rfl, rfl⟩) hat ⟨by simp, rfl, fun j q w hw => by
    have e : j = 3 := by omega
    subst e
    have hw : x3 = some w := Option.some.inj hw
    rw [hw] at hx
    exact beq_iff_eq.mp hx⟩ kk
theorem ld_d4 {z : UInt64} {x0 x1 x2 x3 : Option AV} {t : List (Option AV)} (hat : At Y pc (.dload 4) 2 pc') (kk : AW K Y h Q pc' (x0 :: x1 :: x2 :: x3 :: some (vd z) :: t) (vd z :: st) N g) : AW K Y h Q pc (x0 :: x1 :: x2 :: x3 :: some (vd z) :: t) st N g := g_dld (i := 4) (Or.inl ⟨rfl, rfl⟩) hat rfl kk
theorem sv_d4 {z : UInt64} {x0 x1 x2 x3 x4 x5 : Option AV} {t : List (Option AV)} (hn : 5 < Y.2.2.1) (hx : c1 x3 = true) (hat : At Y pc (.dstore 4) 2 pc') (kk : AW K Y h Q pc' (x0 :: x1 :: x2 :: x3 :: some (vd z) :: none :: t) st N g) : AW K Y h Q pc (x0 :: x1 :: x2 :: x3 :: x4 :: x5 :: t) (vd z :: st) N g := by
  refine g_dst (i := 4) hn (Or.inl ⟨rfl, rfl⟩) hat ⟨by simp, rfl, fun j q w hw => by
    have e : j = 3 := by omega
    subst e
    have hw : x3 = some w := Option.some.inj hw
    rw [hw] at hx
    exact beq_iff_eq.mp hx⟩ kk
theorem ld_f4 {z : UInt32} {x0 x1 x2 x3 : Option AV} {t : List (Option AV)} (hat : At Y pc (.fload 4) 2 pc') (kk : AW K Y h Q pc' (x0 :: x1 :: x2 :: x3 :: some (vf z) :: t) (vf z :: st) N g) : AW K Y h Q pc (x0 :: x1 :: x2 :: x3 :: some (vf z) :: t) st N g := g_fld (i := 4) (Or.inl ⟨rfl, rfl⟩) hat rfl kk
theorem inc_4 {z w : Int} {x0 x1 x2 x3 : Option AV} {t : List (Option AV)} (hn : 4 < Y.2.2.1) (hx : c1 x3 = true) (hat : At Y pc (.iinc 4 w) 3 pc') (kk : AW K Y h Q pc' (x0 :: x1 :: x2 :: x3 :: some (vi (z + w)) :: t) st N g) : AW K Y h Q pc (x0 :: x1 :: x2 :: x3 :: some (vi z) :: t) st N g := by
  refine g_iinc (i := 4) hn hat rfl ⟨by simp, rfl, fun j q w hw => by
    have e : j = 3 := by omega
    subst e
    have hw : x3 = some w := Option.some.inj hw
    rw [hw] at hx
    exact beq_iff_eq.mp hx⟩ kk
theorem fg_4 {x0 x1 x2 x3 x4 : Option AV} {t : List (Option AV)} (kk : AW K Y h Q pc (x0 :: x1 :: x2 :: x3 :: none :: t) st N g) : AW K Y h Q pc (x0 :: x1 :: x2 :: x3 :: x4 :: t) st N g := by
  refine AW.forget (fun i v hv => ?_) kk
  by_cases e : i = 4
  · subst e; exact absurd (Option.some.inj hv) (by simp)
  · revert e hv
    rcases i with _ | _ | _ | _ | _ | i
    all_goals intro hv e
    all_goals first | exact hv | exact absurd rfl e
theorem ld_i5 {z : Int} {x0 x1 x2 x3 x4 : Option AV} {t : List (Option AV)} (hat : At Y pc (.iload 5) 2 pc') (kk : AW K Y h Q pc' (x0 :: x1 :: x2 :: x3 :: x4 :: some (vi z) :: t) (vi z :: st) N g) : AW K Y h Q pc (x0 :: x1 :: x2 :: x3 :: x4 :: some (vi z) :: t) st N g := g_ild (i := 5) (Or.inl ⟨rfl, rfl⟩) hat rfl kk
theorem sv_i5 {z : Int} {x0 x1 x2 x3 x4 x5 : Option AV} {t : List (Option AV)} (hn : 5 < Y.2.2.1) (hx : c1 x4 = true) (hat : At Y pc (.istore 5) 2 pc') (kk : AW K Y h Q pc' (x0 :: x1 :: x2 :: x3 :: x4 :: some (vi z) :: t) st N g) : AW K Y h Q pc (x0 :: x1 :: x2 :: x3 :: x4 :: x5 :: t) (vi z :: st) N g := by
  refine g_ist (i := 5) hn (Or.inl ⟨rfl, rfl⟩) hat ⟨by simp, rfl, fun j q w hw => by
    have e : j = 4 := by omega
    subst e
    have hw : x4 = some w := Option.some.inj hw
    rw [hw] at hx
    exact beq_iff_eq.mp hx⟩ kk
theorem ld_l5 {z : Int} {x0 x1 x2 x3 x4 : Option AV} {t : List (Option AV)} (hat : At Y pc (.lload 5) 2 pc') (kk : AW K Y h Q pc' (x0 :: x1 :: x2 :: x3 :: x4 :: some (vl z) :: t) (vl z :: st) N g) : AW K Y h Q pc (x0 :: x1 :: x2 :: x3 :: x4 :: some (vl z) :: t) st N g := g_lld (i := 5) (Or.inl ⟨rfl, rfl⟩) hat rfl kk
theorem sv_l5 {z : Int} {x0 x1 x2 x3 x4 x5 x6 : Option AV} {t : List (Option AV)} (hn : 6 < Y.2.2.1) (hx : c1 x4 = true) (hat : At Y pc (.lstore 5) 2 pc') (kk : AW K Y h Q pc' (x0 :: x1 :: x2 :: x3 :: x4 :: some (vl z) :: none :: t) st N g) : AW K Y h Q pc (x0 :: x1 :: x2 :: x3 :: x4 :: x5 :: x6 :: t) (vl z :: st) N g := by
  refine g_lst (i := 5) hn (Or.inl ⟨rfl, rfl⟩) hat ⟨by simp, rfl, fun j q w hw => by
    have e : j = 4 := by omega
    subst e
    have hw : x4 = some w := Option.some.inj hw
    rw [hw] at hx
    exact beq_iff_eq.mp hx⟩ kk
theorem ld_a5 {k i : Nat} {x0 x1 x2 x3 x4 : Option AV} {t : List (Option AV)} (hat : At Y pc (.aload 5) 2 pc') (kk : AW K Y h Q pc' (x0 :: x1 :: x2 :: x3 :: x4 :: some (vr k i) :: t) (vr k i :: st) N g) : AW K Y h Q pc (x0 :: x1 :: x2 :: x3 :: x4 :: some (vr k i) :: t) st N g := g_ald (i := 5) (Or.inl ⟨rfl, rfl⟩) hat rfl kk
theorem sv_a5 {k i : Nat} {x0 x1 x2 x3 x4 x5 : Option AV} {t : List (Option AV)} (hn : 5 < Y.2.2.1) (hx : c1 x4 = true) (hat : At Y pc (.astore 5) 2 pc') (kk : AW K Y h Q pc' (x0 :: x1 :: x2 :: x3 :: x4 :: some (vr k i) :: t) st N g) : AW K Y h Q pc (x0 :: x1 :: x2 :: x3 :: x4 :: x5 :: t) (vr k i :: st) N g := by
  refine g_ast (i := 5) hn (Or.inl ⟨rfl, rfl⟩) hat ⟨by simp, rfl, fun j q w hw => by
    have e : j = 4 := by omega
    subst e
    have hw : x4 = some w := Option.some.inj hw
    rw [hw] at hx
    exact beq_iff_eq.mp hx⟩ kk
theorem inc_5 {z w : Int} {x0 x1 x2 x3 x4 : Option AV} {t : List (Option AV)} (hn : 5 < Y.2.2.1) (hx : c1 x4 = true) (hat : At Y pc (.iinc 5 w) 3 pc') (kk : AW K Y h Q pc' (x0 :: x1 :: x2 :: x3 :: x4 :: some (vi (z + w)) :: t) st N g) : AW K Y h Q pc (x0 :: x1 :: x2 :: x3 :: x4 :: some (vi z) :: t) st N g := by
  refine g_iinc (i := 5) hn hat rfl ⟨by simp, rfl, fun j q w hw => by
    have e : j = 4 := by omega
    subst e
    have hw : x4 = some w := Option.some.inj hw
    rw [hw] at hx
    exact beq_iff_eq.mp hx⟩ kk
theorem fg_5 {x0 x1 x2 x3 x4 x5 : Option AV} {t : List (Option AV)} (kk : AW K Y h Q pc (x0 :: x1 :: x2 :: x3 :: x4 :: none :: t) st N g) : AW K Y h Q pc (x0 :: x1 :: x2 :: x3 :: x4 :: x5 :: t) st N g := by
  refine AW.forget (fun i v hv => ?_) kk
  by_cases e : i = 5
  · subst e; exact absurd (Option.some.inj hv) (by simp)
  · revert e hv
    rcases i with _ | _ | _ | _ | _ | _ | i
    all_goals intro hv e
    all_goals first | exact hv | exact absurd rfl e
theorem ld_i6 {z : Int} {x0 x1 x2 x3 x4 x5 : Option AV} {t : List (Option AV)} (hat : At Y pc (.iload 6) 2 pc') (kk : AW K Y h Q pc' (x0 :: x1 :: x2 :: x3 :: x4 :: x5 :: some (vi z) :: t) (vi z :: st) N g) : AW K Y h Q pc (x0 :: x1 :: x2 :: x3 :: x4 :: x5 :: some (vi z) :: t) st N g := g_ild (i := 6) (Or.inl ⟨rfl, rfl⟩) hat rfl kk
theorem sv_i6 {z : Int} {x0 x1 x2 x3 x4 x5 x6 : Option AV} {t : List (Option AV)} (hn : 6 < Y.2.2.1) (hx : c1 x5 = true) (hat : At Y pc (.istore 6) 2 pc') (kk : AW K Y h Q pc' (x0 :: x1 :: x2 :: x3 :: x4 :: x5 :: some (vi z) :: t) st N g) : AW K Y h Q pc (x0 :: x1 :: x2 :: x3 :: x4 :: x5 :: x6 :: t) (vi z :: st) N g := by
  refine g_ist (i := 6) hn (Or.inl ⟨rfl, rfl⟩) hat ⟨by simp, rfl, fun j q w hw => by
    have e : j = 5 := by omega
    subst e
    have hw : x5 = some w := Option.some.inj hw
    rw [hw] at hx
    exact beq_iff_eq.mp hx⟩ kk
theorem ld_l6 {z : Int} {x0 x1 x2 x3 x4 x5 : Option AV} {t : List (Option AV)} (hat : At Y pc (.lload 6) 2 pc') (kk : AW K Y h Q pc' (x0 :: x1 :: x2 :: x3 :: x4 :: x5 :: some (vl z) :: t) (vl z :: st) N g) : AW K Y h Q pc (x0 :: x1 :: x2 :: x3 :: x4 :: x5 :: some (vl z) :: t) st N g := g_lld (i := 6) (Or.inl ⟨rfl, rfl⟩) hat rfl kk
theorem sv_l6 {z : Int} {x0 x1 x2 x3 x4 x5 x6 x7 : Option AV} {t : List (Option AV)} (hn : 7 < Y.2.2.1) (hx : c1 x5 = true) (hat : At Y pc (.lstore 6) 2 pc') (kk : AW K Y h Q pc' (x0 :: x1 :: x2 :: x3 :: x4 :: x5 :: some (vl z) :: none :: t) st N g) : AW K Y h Q pc (x0 :: x1 :: x2 :: x3 :: x4 :: x5 :: x6 :: x7 :: t) (vl z :: st) N g := by
  refine g_lst (i := 6) hn (Or.inl ⟨rfl, rfl⟩) hat ⟨by simp, rfl, fun j q w hw => by
    have e : j = 5 := by omega
    subst e
    have hw : x5 = some w := Option.some.inj hw
    rw [hw] at hx
    exact beq_iff_eq.mp hx⟩ kk
theorem ld_a6 {k i : Nat} {x0 x1 x2 x3 x4 x5 : Option AV} {t : List (Option AV)} (hat : At Y pc (.aload 6) 2 pc') (kk : AW K Y h Q pc' (x0 :: x1 :: x2 :: x3 :: x4 :: x5 :: some (vr k i) :: t) (vr k i :: st) N g) : AW K Y h Q pc (x0 :: x1 :: x2 :: x3 :: x4 :: x5 :: some (vr k i) :: t) st N g := g_ald (i := 6) (Or.inl ⟨rfl, rfl⟩) hat rfl kk
theorem sv_a6 {k i : Nat} {x0 x1 x2 x3 x4 x5 x6 : Option AV} {t : List (Option AV)} (hn : 6 < Y.2.2.1) (hx : c1 x5 = true) (hat : At Y pc (.astore 6) 2 pc') (kk : AW K Y h Q pc' (x0 :: x1 :: x2 :: x3 :: x4 :: x5 :: some (vr k i) :: t) st N g) : AW K Y h Q pc (x0 :: x1 :: x2 :: x3 :: x4 :: x5 :: x6 :: t) (vr k i :: st) N g := by
  refine g_ast (i := 6) hn (Or.inl ⟨rfl, rfl⟩) hat ⟨by simp, rfl, fun j q w hw => by
    have e : j = 5 := by omega
    subst e
    have hw : x5 = some w := Option.some.inj hw
    rw [hw] at hx
    exact beq_iff_eq.mp hx⟩ kk
theorem inc_6 {z w : Int} {x0 x1 x2 x3 x4 x5 : Option AV} {t : List (Option AV)} (hn : 6 < Y.2.2.1) (hx : c1 x5 = true) (hat : At Y pc (.iinc 6 w) 3 pc') (kk : AW K Y h Q pc' (x0 :: x1 :: x2 :: x3 :: x4 :: x5 :: some (vi (z + w)) :: t) st N g) : AW K Y h Q pc (x0 :: x1 :: x2 :: x3 :: x4 :: x5 :: some (vi z) :: t) st N g := by
  refine g_iinc (i := 6) hn hat rfl ⟨by simp, rfl, fun j q w hw => by
    have e : j = 5 := by omega
    subst e
    have hw : x5 = some w := Option.some.inj hw
    rw [hw] at hx
    exact beq_iff_eq.mp hx⟩ kk
theorem fg_6 {x0 x1 x2 x3 x4 x5 x6 : Option AV} {t : List (Option AV)} (kk : AW K Y h Q pc (x0 :: x1 :: x2 :: x3 :: x4 :: x5 :: none :: t) st N g) : AW K Y h Q pc (x0 :: x1 :: x2 :: x3 :: x4 :: x5 :: x6 :: t) st N g := by
  refine AW.forget (fun i v hv => ?_) kk
  by_cases e : i = 6
  · subst e; exact absurd (Option.some.inj hv) (by simp)
  · revert e hv
    rcases i with _ | _ | _ | _ | _ | _ | _ | i
    all_goals intro hv e
    all_goals first | exact hv | exact absurd rfl e
theorem ld_i7 {z : Int} {x0 x1 x2 x3 x4 x5 x6 : Option AV} {t : List (Option AV)} (hat : At Y pc (.iload 7) 2 pc') (kk : AW K Y h Q pc' (x0 :: x1 :: x2 :: x3 :: x4 :: x5 :: x6 :: some (vi z) :: t) (vi z :: st) N g) : AW K Y h Q pc (x0 :: x1 :: x2 :: x3 :: x4 :: x5 :: x6 :: some (vi z) :: t) st N g := g_ild (i := 7) (Or.inl ⟨rfl, rfl⟩) hat rfl kk
theorem sv_i7 {z : Int} {x0 x1 x2 x3 x4 x5 x6 x7 : Option AV} {t : List (Option AV)} (hn : 7 < Y.2.2.1) (hx : c1 x6 = true) (hat : At Y pc (.istore 7) 2 pc') (kk : AW K Y h Q pc' (x0 :: x1 :: x2 :: x3 :: x4 :: x5 :: x6 :: some (vi z) :: t) st N g) : AW K Y h Q pc (x0 :: x1 :: x2 :: x3 :: x4 :: x5 :: x6 :: x7 :: t) (vi z :: st) N g := by
  refine g_ist (i := 7) hn (Or.inl ⟨rfl, rfl⟩) hat ⟨by simp, rfl, fun j q w hw => by
    have e : j = 6 := by omega
    subst e
    have hw : x6 = some w := Option.some.inj hw
    rw [hw] at hx
    exact beq_iff_eq.mp hx⟩ kk
theorem ld_l7 {z : Int} {x0 x1 x2 x3 x4 x5 x6 : Option AV} {t : List (Option AV)} (hat : At Y pc (.lload 7) 2 pc') (kk : AW K Y h Q pc' (x0 :: x1 :: x2 :: x3 :: x4 :: x5 :: x6 :: some (vl z) :: t) (vl z :: st) N g) : AW K Y h Q pc (x0 :: x1 :: x2 :: x3 :: x4 :: x5 :: x6 :: some (vl z) :: t) st N g := g_lld (i := 7) (Or.inl ⟨rfl, rfl⟩) hat rfl kk
theorem sv_l7 {z : Int} {x0 x1 x2 x3 x4 x5 x6 x7 x8 : Option AV} {t : List (Option AV)} (hn : 8 < Y.2.2.1) (hx : c1 x6 = true) (hat : At Y pc (.lstore 7) 2 pc') (kk : AW K Y h Q pc' (x0 :: x1 :: x2 :: x3 :: x4 :: x5 :: x6 :: some (vl z) :: none :: t) st N g) : AW K Y h Q pc (x0 :: x1 :: x2 :: x3 :: x4 :: x5 :: x6 :: x7 :: x8 :: t) (vl z :: st) N g := by
  refine g_lst (i := 7) hn (Or.inl ⟨rfl, rfl⟩) hat ⟨by simp, rfl, fun j q w hw => by
    have e : j = 6 := by omega
    subst e
    have hw : x6 = some w := Option.some.inj hw
    rw [hw] at hx
    exact beq_iff_eq.mp hx⟩ kk
theorem ld_a7 {k i : Nat} {x0 x1 x2 x3 x4 x5 x6 : Option AV} {t : List (Option AV)} (hat : At Y pc (.aload 7) 2 pc') (kk : AW K Y h Q pc' (x0 :: x1 :: x2 :: x3 :: x4 :: x5 :: x6 :: some (vr k i) :: t) (vr k i :: st) N g) : AW K Y h Q pc (x0 :: x1 :: x2 :: x3 :: x4 :: x5 :: x6 :: some (vr k i) :: t) st N g := g_ald (i := 7) (Or.inl ⟨rfl, rfl⟩) hat rfl kk
theorem sv_a7 {k i : Nat} {x0 x1 x2 x3 x4 x5 x6 x7 : Option AV} {t : List (Option AV)} (hn : 7 < Y.2.2.1) (hx : c1 x6 = true) (hat : At Y pc (.astore 7) 2 pc') (kk : AW K Y h Q pc' (x0 :: x1 :: x2 :: x3 :: x4 :: x5 :: x6 :: some (vr k i) :: t) st N g) : AW K Y h Q pc (x0 :: x1 :: x2 :: x3 :: x4 :: x5 :: x6 :: x7 :: t) (vr k i :: st) N g := by
  refine g_ast (i := 7) hn (Or.inl ⟨rfl, rfl⟩) hat ⟨by simp, rfl, fun j q w hw => by
    have e : j = 6 := by omega
    subst e
    have hw : x6 = some w := Option.some.inj hw
    rw [hw] at hx
    exact beq_iff_eq.mp hx⟩ kk
theorem inc_7 {z w : Int} {x0 x1 x2 x3 x4 x5 x6 : Option AV} {t : List (Option AV)} (hn : 7 < Y.2.2.1) (hx : c1 x6 = true) (hat : At Y pc (.iinc 7 w) 3 pc') (kk : AW K Y h Q pc' (x0 :: x1 :: x2 :: x3 :: x4 :: x5 :: x6 :: some (vi (z + w)) :: t) st N g) : AW K Y h Q pc (x0 :: x1 :: x2 :: x3 :: x4 :: x5 :: x6 :: some (vi z) :: t) st N g := by
  refine g_iinc (i := 7) hn hat rfl ⟨by simp, rfl, fun j q w hw => by
    have e : j = 6 := by omega
    subst e
    have hw : x6 = some w := Option.some.inj hw
    rw [hw] at hx
    exact beq_iff_eq.mp hx⟩ kk
theorem fg_7 {x0 x1 x2 x3 x4 x5 x6 x7 : Option AV} {t : List (Option AV)} (kk : AW K Y h Q pc (x0 :: x1 :: x2 :: x3 :: x4 :: x5 :: x6 :: none :: t) st N g) : AW K Y h Q pc (x0 :: x1 :: x2 :: x3 :: x4 :: x5 :: x6 :: x7 :: t) st N g := by
  refine AW.forget (fun i v hv => ?_) kk
  by_cases e : i = 7
  · subst e; exact absurd (Option.some.inj hv) (by simp)
  · revert e hv
    rcases i with _ | _ | _ | _ | _ | _ | _ | _ | i
    all_goals intro hv e
    all_goals first | exact hv | exact absurd rfl e
theorem ld_i8 {z : Int} {x0 x1 x2 x3 x4 x5 x6 x7 : Option AV} {t : List (Option AV)} (hat : At Y pc (.iload 8) 2 pc') (kk : AW K Y h Q pc' (x0 :: x1 :: x2 :: x3 :: x4 :: x5 :: x6 :: x7 :: some (vi z) :: t) (vi z :: st) N g) : AW K Y h Q pc (x0 :: x1 :: x2 :: x3 :: x4 :: x5 :: x6 :: x7 :: some (vi z) :: t) st N g := g_ild (i := 8) (Or.inl ⟨rfl, rfl⟩) hat rfl kk
theorem sv_i8 {z : Int} {x0 x1 x2 x3 x4 x5 x6 x7 x8 : Option AV} {t : List (Option AV)} (hn : 8 < Y.2.2.1) (hx : c1 x7 = true) (hat : At Y pc (.istore 8) 2 pc') (kk : AW K Y h Q pc' (x0 :: x1 :: x2 :: x3 :: x4 :: x5 :: x6 :: x7 :: some (vi z) :: t) st N g) : AW K Y h Q pc (x0 :: x1 :: x2 :: x3 :: x4 :: x5 :: x6 :: x7 :: x8 :: t) (vi z :: st) N g := by
  refine g_ist (i := 8) hn (Or.inl ⟨rfl, rfl⟩) hat ⟨by simp, rfl, fun j q w hw => by
    have e : j = 7 := by omega
    subst e
    have hw : x7 = some w := Option.some.inj hw
    rw [hw] at hx
    exact beq_iff_eq.mp hx⟩ kk
theorem ld_l8 {z : Int} {x0 x1 x2 x3 x4 x5 x6 x7 : Option AV} {t : List (Option AV)} (hat : At Y pc (.lload 8) 2 pc') (kk : AW K Y h Q pc' (x0 :: x1 :: x2 :: x3 :: x4 :: x5 :: x6 :: x7 :: some (vl z) :: t) (vl z :: st) N g) : AW K Y h Q pc (x0 :: x1 :: x2 :: x3 :: x4 :: x5 :: x6 :: x7 :: some (vl z) :: t) st N g := g_lld (i := 8) (Or.inl ⟨rfl, rfl⟩) hat rfl kk
theorem sv_l8 {z : Int} {x0 x1 x2 x3 x4 x5 x6 x7 x8 x9 : Option AV} {t : List (Option AV)} (hn : 9 < Y.2.2.1) (hx : c1 x7 = true) (hat : At Y pc (.lstore 8) 2 pc') (kk : AW K Y h Q pc' (x0 :: x1 :: x2 :: x3 :: x4 :: x5 :: x6 :: x7 :: some (vl z) :: none :: t) st N g) : AW K Y h Q pc (x0 :: x1 :: x2 :: x3 :: x4 :: x5 :: x6 :: x7 :: x8 :: x9 :: t) (vl z :: st) N g := by
  refine g_lst (i := 8) hn (Or.inl ⟨rfl, rfl⟩) hat ⟨by simp, rfl, fun j q w hw => by
    have e : j = 7 := by omega
    subst e
    have hw : x7 = some w := Option.some.inj hw
    rw [hw] at hx
    exact beq_iff_eq.mp hx⟩ kk
theorem ld_a8 {k i : Nat} {x0 x1 x2 x3 x4 x5 x6 x7 : Option AV} {t : List (Option AV)} (hat : At Y pc (.aload 8) 2 pc') (kk : AW K Y h Q pc' (x0 :: x1 :: x2 :: x3 :: x4 :: x5 :: x6 :: x7 :: some (vr k i) :: t) (vr k i :: st) N g) : AW K Y h Q pc (x0 :: x1 :: x2 :: x3 :: x4 :: x5 :: x6 :: x7 :: some (vr k i) :: t) st N g := g_ald (i := 8) (Or.inl ⟨rfl, rfl⟩) hat rfl kk
theorem sv_a8 {k i : Nat} {x0 x1 x2 x3 x4 x5 x6 x7 x8 : Option AV} {t : List (Option AV)} (hn : 8 < Y.2.2.1) (hx : c1 x7 = true) (hat : At Y pc (.astore 8) 2 pc') (kk : AW K Y h Q pc' (x0 :: x1 :: x2 :: x3 :: x4 :: x5 :: x6 :: x7 :: some (vr k i) :: t) st N g) : AW K Y h Q pc (x0 :: x1 :: x2 :: x3 :: x4 :: x5 :: x6 :: x7 :: x8 :: t) (vr k i :: st) N g := by
  refine g_ast (i := 8) hn (Or.inl ⟨rfl, rfl⟩) hat ⟨by simp, rfl, fun j q w hw => by
    have e : j = 7 := by omega
    subst e
    have hw : x7 = some w := Option.some.inj hw
    rw [hw] at hx
    exact beq_iff_eq.mp hx⟩ kk
theorem inc_8 {z w : Int} {x0 x1 x2 x3 x4 x5 x6 x7 : Option AV} {t : List (Option AV)} (hn : 8 < Y.2.2.1) (hx : c1 x7 = true) (hat : At Y pc (.iinc 8 w) 3 pc') (kk : AW K Y h Q pc' (x0 :: x1 :: x2 :: x3 :: x4 :: x5 :: x6 :: x7 :: some (vi (z + w)) :: t) st N g) : AW K Y h Q pc (x0 :: x1 :: x2 :: x3 :: x4 :: x5 :: x6 :: x7 :: some (vi z) :: t) st N g := by
  refine g_iinc (i := 8) hn hat rfl ⟨by simp, rfl, fun j q w hw => by
    have e : j = 7 := by omega
    subst e
    have hw : x7 = some w := Option.some.inj hw
    rw [hw] at hx
    exact beq_iff_eq.mp hx⟩ kk
theorem fg_8 {x0 x1 x2 x3 x4 x5 x6 x7 x8 : Option AV} {t : List (Option AV)} (kk : AW K Y h Q pc (x0 :: x1 :: x2 :: x3 :: x4 :: x5 :: x6 :: x7 :: none :: t) st N g) : AW K Y h Q pc (x0 :: x1 :: x2 :: x3 :: x4 :: x5 :: x6 :: x7 :: x8 :: t) st N g := by
  refine AW.forget (fun i v hv => ?_) kk
  by_cases e : i = 8
  · subst e; exact absurd (Option.some.inj hv) (by simp)
  · revert e hv
    rcases i with _ | _ | _ | _ | _ | _ | _ | _ | _ | i
    all_goals intro hv e
    all_goals first | exact hv | exact absurd rfl e
theorem ld_i9 {z : Int} {x0 x1 x2 x3 x4 x5 x6 x7 x8 : Option AV} {t : List (Option AV)} (hat : At Y pc (.iload 9) 2 pc') (kk : AW K Y h Q pc' (x0 :: x1 :: x2 :: x3 :: x4 :: x5 :: x6 :: x7 :: x8 :: some (vi z) :: t) (vi z :: st) N g) : AW K Y h Q pc (x0 :: x1 :: x2 :: x3 :: x4 :: x5 :: x6 :: x7 :: x8 :: some (vi z) :: t) st N g := g_ild (i := 9) (Or.inl ⟨rfl, rfl⟩) hat rfl kk
theorem sv_i9 {z : Int} {x0 x1 x2 x3 x4 x5 x6 x7 x8 x9 : Option AV} {t : List (Option AV)} (hn : 9 < Y.2.2.1) (hx : c1 x8 = true) (hat : At Y pc (.istore 9) 2 pc') (kk : AW K Y h Q pc' (x0 :: x1 :: x2 :: x3 :: x4 :: x5 :: x6 :: x7 :: x8 :: some (vi z) :: t) st N g) : AW K Y h Q pc (x0 :: x1 :: x2 :: x3 :: x4 :: x5 :: x6 :: x7 :: x8 :: x9 :: t) (vi z :: st) N g := by
  refine g_ist (i := 9) hn (Or.inl ⟨rfl, rfl⟩) hat ⟨by simp, rfl, fun j q w hw => by
    have e : j = 8 := by omega
    subst e
    have hw : x8 = some w := Option.some.inj hw
    rw [hw] at hx
    exact beq_iff_eq.mp hx⟩ kk
theorem ld_l9 {z : Int} {x0 x1 x2 x3 x4 x5 x6 x7 x8 : Option AV} {t : List (Option AV)} (hat : At Y pc (.lload 9) 2 pc') (kk : AW K Y h Q pc' (x0 :: x1 :: x2 :: x3 :: x4 :: x5 :: x6 :: x7 :: x8 :: some (vl z) :: t) (vl z :: st) N g) : AW K Y h Q pc (x0 :: x1 :: x2 :: x3 :: x4 :: x5 :: x6 :: x7 :: x8 :: some (vl z) :: t) st N g := g_lld (i := 9) (Or.inl ⟨rfl, rfl⟩) hat rfl kk
theorem sv_l9 {z : Int} {x0 x1 x2 x3 x4 x5 x6 x7 x8 x9 x10 : Option AV} {t : List (Option AV)} (hn : 10 < Y.2.2.1) (hx : c1 x8 = true) (hat : At Y pc (.lstore 9) 2 pc') (kk : AW K Y h Q pc' (x0 :: x1 :: x2 :: x3 :: x4 :: x5 :: x6 :: x7 :: x8 :: some (vl z) :: none :: t) st N g) : AW K Y h Q pc (x0 :: x1 :: x2 :: x3 :: x4 :: x5 :: x6 :: x7 :: x8 :: x9 :: x10 :: t) (vl z :: st) N g := by
  refine g_lst (i := 9) hn (Or.inl ⟨rfl, rfl⟩) hat ⟨by simp, rfl, fun j q w hw => by
    have e : j = 8 := by omega
    subst e
    have hw : x8 = some w := Option.some.inj hw
    rw [hw] at hx
    exact beq_iff_eq.mp hx⟩ kk
theorem ld_a9 {k i : Nat} {x0 x1 x2 x3 x4 x5 x6 x7 x8 : Option AV} {t : List (Option AV)} (hat : At Y pc (.aload 9) 2 pc') (kk : AW K Y h Q pc' (x0 :: x1 :: x2 :: x3 :: x4 :: x5 :: x6 :: x7 :: x8 :: some (vr k i) :: t) (vr k i :: st) N g) : AW K Y h Q pc (x0 :: x1 :: x2 :: x3 :: x4 :: x5 :: x6 :: x7 :: x8 :: some (vr k i) :: t) st N g := g_ald (i := 9) (Or.inl ⟨rfl, rfl⟩) hat rfl kk
theorem sv_a9 {k i : Nat} {x0 x1 x2 x3 x4 x5 x6 x7 x8 x9 : Option AV} {t : List (Option AV)} (hn : 9 < Y.2.2.1) (hx : c1 x8 = true) (hat : At Y pc (.astore 9) 2 pc') (kk : AW K Y h Q pc' (x0 :: x1 :: x2 :: x3 :: x4 :: x5 :: x6 :: x7 :: x8 :: some (vr k i) :: t) st N g) : AW K Y h Q pc (x0 :: x1 :: x2 :: x3 :: x4 :: x5 :: x6 :: x7 :: x8 :: x9 :: t) (vr k i :: st) N g := by
  refine g_ast (i := 9) hn (Or.inl ⟨rfl, rfl⟩) hat ⟨by simp, rfl, fun j q w hw => by
    have e : j = 8 := by omega
    subst e
    have hw : x8 = some w := Option.some.inj hw
    rw [hw] at hx
    exact beq_iff_eq.mp hx⟩ kk
theorem inc_9 {z w : Int} {x0 x1 x2 x3 x4 x5 x6 x7 x8 : Option AV} {t : List (Option AV)} (hn : 9 < Y.2.2.1) (hx : c1 x8 = true) (hat : At Y pc (.iinc 9 w) 3 pc') (kk : AW K Y h Q pc' (x0 :: x1 :: x2 :: x3 :: x4 :: x5 :: x6 :: x7 :: x8 :: some (vi (z + w)) :: t) st N g) : AW K Y h Q pc (x0 :: x1 :: x2 :: x3 :: x4 :: x5 :: x6 :: x7 :: x8 :: some (vi z) :: t) st N g := by
  refine g_iinc (i := 9) hn hat rfl ⟨by simp, rfl, fun j q w hw => by
    have e : j = 8 := by omega
    subst e
    have hw : x8 = some w := Option.some.inj hw
    rw [hw] at hx
    exact beq_iff_eq.mp hx⟩ kk
theorem fg_9 {x0 x1 x2 x3 x4 x5 x6 x7 x8 x9 : Option AV} {t : List (Option AV)} (kk : AW K Y h Q pc (x0 :: x1 :: x2 :: x3 :: x4 :: x5 :: x6 :: x7 :: x8 :: none :: t) st N g) : AW K Y h Q pc (x0 :: x1 :: x2 :: x3 :: x4 :: x5 :: x6 :: x7 :: x8 :: x9 :: t) st N g := by
  refine AW.forget (fun i v hv => ?_) kk
  by_cases e : i = 9
  · subst e; exact absurd (Option.some.inj hv) (by simp)
  · revert e hv
    rcases i with _ | _ | _ | _ | _ | _ | _ | _ | _ | _ | i
    all_goals intro hv e
    all_goals first | exact hv | exact absurd rfl e
theorem ld_i10 {z : Int} {x0 x1 x2 x3 x4 x5 x6 x7 x8 x9 : Option AV} {t : List (Option AV)} (hat : At Y pc (.iload 10) 2 pc') (kk : AW K Y h Q pc' (x0 :: x1 :: x2 :: x3 :: x4 :: x5 :: x6 :: x7 :: x8 :: x9 :: some (vi z) :: t) (vi z :: st) N g) : AW K Y h Q pc (x0 :: x1 :: x2 :: x3 :: x4 :: x5 :: x6 :: x7 :: x8 :: x9 :: some (vi z) :: t) st N g := g_ild (i := 10) (Or.inl ⟨rfl, rfl⟩) hat rfl kk
theorem sv_i10 {z : Int} {x0 x1 x2 x3 x4 x5 x6 x7 x8 x9 x10 : Option AV} {t : List (Option AV)} (hn : 10 < Y.2.2.1) (hx : c1 x9 = true) (hat : At Y pc (.istore 10) 2 pc') (kk : AW K Y h Q pc' (x0 :: x1 :: x2 :: x3 :: x4 :: x5 :: x6 :: x7 :: x8 :: x9 :: some (vi z) :: t) st N g) : AW K Y h Q pc (x0 :: x1 :: x2 :: x3 :: x4 :: x5 :: x6 :: x7 :: x8 :: x9 :: x10 :: t) (vi z :: st) N g := by
  refine g_ist (i := 10) hn (Or.inl ⟨rfl, rfl⟩) hat ⟨by simp, rfl, fun j q w hw => by
    have e : j = 9 := by omega
    subst e
    have hw : x9 = some w := Option.some.inj hw
    rw [hw] at hx
    exact beq_iff_eq.mp hx⟩ kk
theorem ld_l10 {z : Int} {x0 x1 x2 x3 x4 x5 x6 x7 x8 x9 : Option AV} {t : List (Option AV)} (hat : At Y pc (.lload 10) 2 pc') (kk : AW K Y h Q pc' (x0 :: x1 :: x2 :: x3 :: x4 :: x5 :: x6 :: x7 :: x8 :: x9 :: some (vl z) :: t) (vl z :: st) N g) : AW K Y h Q pc (x0 :: x1 :: x2 :: x3 :: x4 :: x5 :: x6 :: x7 :: x8 :: x9 :: some (vl z) :: t) st N g := g_lld (i := 10) (Or.inl ⟨rfl, rfl⟩) hat rfl kk
theorem sv_l10 {z : Int} {x0 x1 x2 x3 x4 x5 x6 x7 x8 x9 x10 x11 : Option AV} {t : List (Option AV)} (hn : 11 < Y.2.2.1) (hx : c1 x9 = true) (hat : At Y pc (.lstore 10) 2 pc') (kk : AW K Y h Q pc' (x0 :: x1 :: x2 :: x3 :: x4 :: x5 :: x6 :: x7 :: x8 :: x9 :: some (vl z) :: none :: t) st N g) : AW K Y h Q pc (x0 :: x1 :: x2 :: x3 :: x4 :: x5 :: x6 :: x7 :: x8 :: x9 :: x10 :: x11 :: t) (vl z :: st) N g := by
  refine g_lst (i := 10) hn (Or.inl ⟨rfl, rfl⟩) hat ⟨by simp, rfl, fun j q w hw => by
    have e : j = 9 := by omega
    subst e
    have hw : x9 = some w := Option.some.inj hw
    rw [hw] at hx
    exact beq_iff_eq.mp hx⟩ kk
theorem ld_a10 {k i : Nat} {x0 x1 x2 x3 x4 x5 x6 x7 x8 x9 : Option AV} {t : List (Option AV)} (hat : At Y pc (.aload 10) 2 pc') (kk : AW K Y h Q pc' (x0 :: x1 :: x2 :: x3 :: x4 :: x5 :: x6 :: x7 :: x8 :: x9 :: some (vr k i) :: t) (vr k i :: st) N g) : AW K Y h Q pc (x0 :: x1 :: x2 :: x3 :: x4 :: x5 :: x6 :: x7 :: x8 :: x9 :: some (vr k i) :: t) st N g := g_ald (i := 10) (Or.inl ⟨rfl, rfl⟩) hat rfl kk
theorem sv_a10 {k i : Nat} {x0 x1 x2 x3 x4 x5 x6 x7 x8 x9 x10 : Option AV} {t : List (Option AV)} (hn : 10 < Y.2.2.1) (hx : c1 x9 = true) (hat : At Y pc (.astore 10) 2 pc') (kk : AW K Y h Q pc' (x0 :: x1 :: x2 :: x3 :: x4 :: x5 :: x6 :: x7 :: x8 :: x9 :: some (vr k i) :: t) st N g) : AW K Y h Q pc (x0 :: x1 :: x2 :: x3 :: x4 :: x5 :: x6 :: x7 :: x8 :: x9 :: x10 :: t) (vr k i :: st) N g := by
  refine g_ast (i := 10) hn (Or.inl ⟨rfl, rfl⟩) hat ⟨by simp, rfl, fun j q w hw => by
    have e : j = 9 := by omega
    subst e
    have hw : x9 = some w := Option.some.inj hw
    rw [hw] at hx
    exact beq_iff_eq.mp hx⟩ kk
theorem inc_10 {z w : Int} {x0 x1 x2 x3 x4 x5 x6 x7 x8 x9 : Option AV} {t : List (Option AV)} (hn : 10 < Y.2.2.1) (hx : c1 x9 = true) (hat : At Y pc (.iinc 10 w) 3 pc') (kk : AW K Y h Q pc' (x0 :: x1 :: x2 :: x3 :: x4 :: x5 :: x6 :: x7 :: x8 :: x9 :: some (vi (z + w)) :: t) st N g) : AW K Y h Q pc (x0 :: x1 :: x2 :: x3 :: x4 :: x5 :: x6 :: x7 :: x8 :: x9 :: some (vi z) :: t) st N g := by
  refine g_iinc (i := 10) hn hat rfl ⟨by simp, rfl, fun j q w hw => by
    have e : j = 9 := by omega
    subst e
    have hw : x9 = some w := Option.some.inj hw
    rw [hw] at hx
    exact beq_iff_eq.mp hx⟩ kk
theorem fg_10 {x0 x1 x2 x3 x4 x5 x6 x7 x8 x9 x10 : Option AV} {t : List (Option AV)} (kk : AW K Y h Q pc (x0 :: x1 :: x2 :: x3 :: x4 :: x5 :: x6 :: x7 :: x8 :: x9 :: none :: t) st N g) : AW K Y h Q pc (x0 :: x1 :: x2 :: x3 :: x4 :: x5 :: x6 :: x7 :: x8 :: x9 :: x10 :: t) st N g := by
  refine AW.forget (fun i v hv => ?_) kk
  by_cases e : i = 10
  · subst e; exact absurd (Option.some.inj hv) (by simp)
  · revert e hv
    rcases i with _ | _ | _ | _ | _ | _ | _ | _ | _ | _ | _ | i
    all_goals intro hv e
    all_goals first | exact hv | exact absurd rfl e
theorem ld_i11 {z : Int} {x0 x1 x2 x3 x4 x5 x6 x7 x8 x9 x10 : Option AV} {t : List (Option AV)} (hat : At Y pc (.iload 11) 2 pc') (kk : AW K Y h Q pc' (x0 :: x1 :: x2 :: x3 :: x4 :: x5 :: x6 :: x7 :: x8 :: x9 :: x10 :: some (vi z) :: t) (vi z :: st) N g) : AW K Y h Q pc (x0 :: x1 :: x2 :: x3 :: x4 :: x5 :: x6 :: x7 :: x8 :: x9 :: x10 :: some (vi z) :: t) st N g := g_ild (i := 11) (Or.inl ⟨rfl, rfl⟩) hat rfl kk
theorem sv_i11 {z : Int} {x0 x1 x2 x3 x4 x5 x6 x7 x8 x9 x10 x11 : Option AV} {t : List (Option AV)} (hn : 11 < Y.2.2.1) (hx : c1 x10 = true) (hat : At Y pc (.istore 11) 2 pc') (kk : AW K Y h Q pc' (x0 :: x1 :: x2 :: x3 :: x4 :: x5 :: x6 :: x7 :: x8 :: x9 :: x10 :: some (vi z) :: t) st N g) : AW K Y h Q pc (x0 :: x1 :: x2 :: x3 :: x4 :: x5 :: x6 :: x7 :: x8 :: x9 :: x10 :: x11 :: t) (vi z :: st) N g := by
  refine g_ist (i := 11) hn (Or.inl ⟨rfl, rfl⟩) hat ⟨by simp, rfl, fun j q w hw => by
    have e : j = 10 := by omega
    subst e
    have hw : x10 = some w := Option.some.inj hw
    rw [hw] at hx
    exact beq_iff_eq.mp hx⟩ kk
theorem ld_l11 {z : Int} {x0 x1 x2 x3 x4 x5 x6 x7 x8 x9 x10 : Option AV} {t : List (Option AV)} (hat : At Y pc (.lload 11) 2 pc') (kk : AW K Y h Q pc' (x0 :: x1 :: x2 :: x3 :: x4 :: x5 :: x6 :: x7 :: x8 :: x9 :: x10 :: some (vl z) :: t) (vl z :: st) N g) : AW K Y h Q pc (x0 :: x1 :: x2 :: x3 :: x4 :: x5 :: x6 :: x7 :: x8 :: x9 :: x10 :: some (vl z) :: t) st N g := g_lld (i := 11) (Or.inl ⟨rfl, rfl⟩) hat rfl kk
theorem sv_l11 {z : Int} {x0 x1 x2 x3 x4 x5 x6 x7 x8 x9 x10 x11 x12 : Option AV} {t : List (Option AV)} (hn : 12 < Y.2.2.1) (hx : c1 x10 = true) (hat : At Y pc (.lstore 11) 2 pc') (kk : AW K Y h Q pc' (x0 :: x1 :: x2 :: x3 :: x4 :: x5 :: x6 :: x7 :: x8 :: x9 :: x10 :: some (vl z) :: none :: t) st N g) : AW K Y h Q pc (x0 :: x1 :: x2 :: x3 :: x4 :: x5 :: x6 :: x7 :: x8 :: x9 :: x10 :: x11 :: x12 :: t) (vl z :: st) N g := by
  refine g_lst (i := 11) hn (Or.inl ⟨rfl, rfl⟩) hat ⟨by simp, rfl, fun j q w hw => by
    have e : j = 10 := by omega
    subst e
    have hw : x10 = some w := Option.some.inj hw
    rw [hw] at hx
    exact beq_iff_eq.mp hx⟩ kk
theorem ld_a11 {k i : Nat} {x0 x1 x2 x3 x4 x5 x6 x7 x8 x9 x10 : Option AV} {t : List (Option AV)} (hat : At Y pc (.aload 11) 2 pc') (kk : AW K Y h Q pc' (x0 :: x1 :: x2 :: x3 :: x4 :: x5 :: x6 :: x7 :: x8 :: x9 :: x10 :: some (vr k i) :: t) (vr k i :: st) N g) : AW K Y h Q pc (x0 :: x1 :: x2 :: x3 :: x4 :: x5 :: x6 :: x7 :: x8 :: x9 :: x10 :: some (vr k i) :: t) st N g := g_ald (i := 11) (Or.inl ⟨rfl, rfl⟩) hat rfl kk
theorem sv_a11 {k i : Nat} {x0 x1 x2 x3 x4 x5 x6 x7 x8 x9 x10 x11 : Option AV} {t : List (Option AV)} (hn : 11 < Y.2.2.1) (hx : c1 x10 = true) (hat : At Y pc (.astore 11) 2 pc') (kk : AW K Y h Q pc' (x0 :: x1 :: x2 :: x3 :: x4 :: x5 :: x6 :: x7 :: x8 :: x9 :: x10 :: some (vr k i) :: t) st N g) : AW K Y h Q pc (x0 :: x1 :: x2 :: x3 :: x4 :: x5 :: x6 :: x7 :: x8 :: x9 :: x10 :: x11 :: t) (vr k i :: st) N g := by
  refine g_ast (i := 11) hn (Or.inl ⟨rfl, rfl⟩) hat ⟨by simp, rfl, fun j q w hw => by
    have e : j = 10 := by omega
    subst e
    have hw : x10 = some w := Option.some.inj hw
    rw [hw] at hx
    exact beq_iff_eq.mp hx⟩ kk
theorem inc_11 {z w : Int} {x0 x1 x2 x3 x4 x5 x6 x7 x8 x9 x10 : Option AV} {t : List (Option AV)} (hn : 11 < Y.2.2.1) (hx : c1 x10 = true) (hat : At Y pc (.iinc 11 w) 3 pc') (kk : AW K Y h Q pc' (x0 :: x1 :: x2 :: x3 :: x4 :: x5 :: x6 :: x7 :: x8 :: x9 :: x10 :: some (vi (z + w)) :: t) st N g) : AW K Y h Q pc (x0 :: x1 :: x2 :: x3 :: x4 :: x5 :: x6 :: x7 :: x8 :: x9 :: x10 :: some (vi z) :: t) st N g := by
  refine g_iinc (i := 11) hn hat rfl ⟨by simp, rfl, fun j q w hw => by
    have e : j = 10 := by omega
    subst e
    have hw : x10 = some w := Option.some.inj hw
    rw [hw] at hx
    exact beq_iff_eq.mp hx⟩ kk
theorem fg_11 {x0 x1 x2 x3 x4 x5 x6 x7 x8 x9 x10 x11 : Option AV} {t : List (Option AV)} (kk : AW K Y h Q pc (x0 :: x1 :: x2 :: x3 :: x4 :: x5 :: x6 :: x7 :: x8 :: x9 :: x10 :: none :: t) st N g) : AW K Y h Q pc (x0 :: x1 :: x2 :: x3 :: x4 :: x5 :: x6 :: x7 :: x8 :: x9 :: x10 :: x11 :: t) st N g := by
  refine AW.forget (fun i v hv => ?_) kk
  by_cases e : i = 11
  · subst e; exact absurd (Option.some.inj hv) (by simp)
  · revert e hv
    rcases i with _ | _ | _ | _ | _ | _ | _ | _ | _ | _ | _ | _ | i
    all_goals intro hv e
    all_goals first | exact hv | exact absurd rfl e
theorem ld_i12 {z : Int} {x0 x1 x2 x3 x4 x5 x6 x7 x8 x9 x10 x11 : Option AV} {t : List (Option AV)} (hat : At Y pc (.iload 12) 2 pc') (kk : AW K Y h Q pc' (x0 :: x1 :: x2 :: x3 :: x4 :: x5 :: x6 :: x7 :: x8 :: x9 :: x10 :: x11 :: some (vi z) :: t) (vi z :: st) N g) : AW K Y h Q pc (x0 :: x1 :: x2 :: x3 :: x4 :: x5 :: x6 :: x7 :: x8 :: x9 :: x10 :: x11 :: some (vi z) :: t) st N g := g_ild (i := 12) (Or.inl ⟨rfl, rfl⟩) hat rfl kk
theorem sv_i12 {z : Int} {x0 x1 x2 x3 x4 x5 x6 x7 x8 x9 x10 x11 x12 : Option AV} {t : List (Option AV)} (hn : 12 < Y.2.2.1) (hx : c1 x11 = true) (hat : At Y pc (.istore 12) 2 pc') (kk : AW K Y h Q pc' (x0 :: x1 :: x2 :: x3 :: x4 :: x5 :: x6 :: x7 :: x8 :: x9 :: x10 :: x11 :: some (vi z) :: t) st N g) : AW K Y h Q pc (x0 :: x1 :: x2 :: x3 :: x4 :: x5 :: x6 :: x7 :: x8 :: x9 :: x10 :: x11 :: x12 :: t) (vi z :: st) N g := by
  refine g_ist (i := 12) hn (Or.inl ⟨rfl, rfl⟩) hat ⟨by simp, rfl, fun j q w hw => by
    have e : j = 11 := by omega
    subst e
    have hw : x11 = some w := Option.some.inj hw
    rw [hw] at hx
    exact beq_iff_eq.mp hx⟩ kk
theorem ld_l12 {z : Int} {x0 x1 x2 x3 x4 x5 x6 x7 x8 x9 x10 x11 : Option AV} {t : List (Option AV)} (hat : At Y pc (.lload 12) 2 pc') (kk : AW K Y h Q pc' (x0 :: x1 :: x2 :: x3 :: x4 :: x5 :: x6 :: x7 :: x8 :: x9 :: x10 :: x11 :: some (vl z) :: t) (vl z :: st) N g) : AW K Y h Q pc (x0 :: x1 :: x2 :: x3 :: x4 :: x5 :: x6 :: x7 :: x8 :: x9 :: x10 :: x11 :: some (vl z) :: t) st N g := g_lld (i := 12) (Or.inl ⟨rfl, rfl⟩) hat rfl kk
theorem sv_l12 {z : Int} {x0 x1 x2 x3 x4 x5 x6 x7 x8 x9 x10 x11 x12 x13 : Option AV} {t : List (Option AV)} (hn : 13 < Y.2.2.1) (hx : c1 x11 = true) (hat : At Y pc (.lstore 12) 2 pc') (kk : AW K Y h Q pc' (x0 :: x1 :: x2 :: x3 :: x4 :: x5 :: x6 :: x7 :: x8 :: x9 :: x10 :: x11 :: some (vl z) :: none :: t) st N g) : AW K Y h Q pc (x0 :: x1 :: x2 :: x3 :: x4 :: x5 :: x6 :: x7 :: x8 :: x9 :: x10 :: x11 :: x12 :: x13 :: t) (vl z :: st) N g := by
  refine g_lst (i := 12) hn (Or.inl ⟨rfl, rfl⟩) hat ⟨by simp, rfl, fun j q w hw => by
    have e : j = 11 := by omega
    subst e
    have hw : x11 = some w := Option.some.inj hw
    rw [hw] at hx
    exact beq_iff_eq.mp hx⟩ kk
theorem ld_a12 {k i : Nat} {x0 x1 x2 x3 x4 x5 x6 x7 x8 x9 x10 x11 : Option AV} {t : List (Option AV)} (hat : At Y pc (.aload 12) 2 pc') (kk : AW K Y h Q pc' (x0 :: x1 :: x2 :: x3 :: x4 :: x5 :: x6 :: x7 :: x8 :: x9 :: x10 :: x11 :: some (vr k i) :: t) (vr k i :: st) N g) : AW K Y h Q pc (x0 :: x1 :: x2 :: x3 :: x4 :: x5 :: x6 :: x7 :: x8 :: x9 :: x10 :: x11 :: some (vr k i) :: t) st N g := g_ald (i := 12) (Or.inl ⟨rfl, rfl⟩) hat rfl kk
theorem sv_a12 {k i : Nat} {x0 x1 x2 x3 x4 x5 x6 x7 x8 x9 x10 x11 x12 : Option AV} {t : List (Option AV)} (hn : 12 < Y.2.2.1) (hx : c1 x11 = true) (hat : At Y pc (.astore 12) 2 pc') (kk : AW K Y h Q pc' (x0 :: x1 :: x2 :: x3 :: x4 :: x5 :: x6 :: x7 :: x8 :: x9 :: x10 :: x11 :: some (vr k i) :: t) st N g) : AW K Y h Q pc (x0 :: x1 :: x2 :: x3 :: x4 :: x5 :: x6 :: x7 :: x8 :: x9 :: x10 :: x11 :: x12 :: t) (vr k i :: st) N g := by
  refine g_ast (i := 12) hn (Or.inl ⟨rfl, rfl⟩) hat ⟨by simp, rfl, fun j q w hw => by
    have e : j = 11 := by omega
    subst e
    have hw : x11 = some w := Option.some.inj hw
    rw [hw] at hx
    exact beq_iff_eq.mp hx⟩ kk
theorem inc_12 {z w : Int} {x0 x1 x2 x3 x4 x5 x6 x7 x8 x9 x10 x11 : Option AV} {t : List (Option AV)} (hn : 12 < Y.2.2.1) (hx : c1 x11 = true) (hat : At Y pc (.iinc 12 w) 3 pc') (kk : AW K Y h Q pc' (x0 :: x1 :: x2 :: x3 :: x4 :: x5 :: x6 :: x7 :: x8 :: x9 :: x10 :: x11 :: some (vi (z + w)) :: t) st N g) : AW K Y h Q pc (x0 :: x1 :: x2 :: x3 :: x4 :: x5 :: x6 :: x7 :: x8 :: x9 :: x10 :: x11 :: some (vi z) :: t) st N g := by
  refine g_iinc (i := 12) hn hat rfl ⟨by simp, rfl, fun j q w hw => by
    have e : j = 11 := by omega
    subst e
    have hw : x11 = some w := Option.some.inj hw
    rw [hw] at hx
    exact beq_iff_eq.mp hx⟩ kk
theorem fg_12 {x0 x1 x2 x3 x4 x5 x6 x7 x8 x9 x10 x11 x12 : Option AV} {t : List (Option AV)} (kk : AW K Y h Q pc (x0 :: x1 :: x2 :: x3 :: x4 :: x5 :: x6 :: x7 :: x8 :: x9 :: x10 :: x11 :: none :: t) st N g) : AW K Y h Q pc (x0 :: x1 :: x2 :: x3 :: x4 :: x5 :: x6 :: x7 :: x8 :: x9 :: x10 :: x11 :: x12 :: t) st N g := by
  refine AW.forget (fun i v hv => ?_) kk
  by_cases e : i = 12
  · subst e; exact absurd (Option.some.inj hv) (by simp)
  · revert e hv
    rcases i with _ | _ | _ | _ | _ | _ | _ | _ | _ | _ | _ | _ | _ | i
    all_goals intro hv e
    all_goals first | exact hv | exact absurd rfl e
theorem gf_X1_pieces {idx i : Nat} (hlink : Cond.fieldLink Y.1.cls idx RX1 "pieces" "I" ∈ TW) (hat : At Y pc (.getfield idx) 3 pc') (kk : AW K Y h Q pc' ls (vi (N 12 i 0) :: st) N g) : AW K Y h Q pc ls (vr 12 i :: st) N g := r_get (k := 12) (j := 0) (c := 0) (C := RX1) (T := TX1) (n := 8) (v := vi (N 12 i 0)) rfl rfl (by decide) kWX1 rfl hlink (fun _ => rfl) (fun _ _ _ => trivial) hat kk
theorem pf_X1_pieces {idx i : Nat} {z : Int} (hlink : Cond.fieldLink Y.1.cls idx RX1 "pieces" "I" ∈ TW) (hat : At Y pc (.putfield idx) 3 pc') (kk : AW K Y h Q pc' ls st (upN N 12 i 0 z) g) : AW K Y h Q pc ls (vi z :: vr 12 i :: st) N g := r_put (k := 12) (j := 0) (c := 0) (C := RX1) (T := TX1) (n := 8) (ty0 := tyX1) (ty := .int) (v := vi z) (z := z) rfl rfl (by decide) kWX1 rfl hlink tyX1_ok nmX1 rfl (by decide +kernel) (fun _ => rfl) (fun _ => rfl) (fun _ => by show Value.int (Int32.ofInt (upN N 12 i 0 z 12 i 0)) = _; rw [upN_eq]; rfl) hat kk
theorem gf_X1_starts {idx i : Nat} (hlink : Cond.fieldLink Y.1.cls idx RX1 "starts" "[I" ∈ TW) (hat : At Y pc (.getfield idx) 3 pc') (kk : AW K Y h Q pc' ls (vr 13 (i) :: st) N g) : AW K Y h Q pc ls (vr 12 i :: st) N g := r_get (k := 12) (j := 1) (c := 0) (C := RX1) (T := TX1) (n := 8) (v := vr 13 (i)) rfl rfl (by decide) kWX1 rfl hlink (fun _ => rfl) (fun _ _ q => q) hat kk
theorem gf_X1_values {idx i : Nat} (hlink : Cond.fieldLink Y.1.cls idx RX1 "values" "[J" ∈ TW) (hat : At Y pc (.getfield idx) 3 pc') (kk : AW K Y h Q pc' ls (vr 14 (i) :: st) N g) : AW K Y h Q pc ls (vr 12 i :: st) N g := r_get (k := 12) (j := 2) (c := 0) (C := RX1) (T := TX1) (n := 8) (v := vr 14 (i)) rfl rfl (by decide) kWX1 rfl hlink (fun _ => rfl) (fun _ _ q => q) hat kk
theorem gf_X1_gains {idx i : Nat} (hlink : Cond.fieldLink Y.1.cls idx RX1 "gains" "[J" ∈ TW) (hat : At Y pc (.getfield idx) 3 pc') (kk : AW K Y h Q pc' ls (vr 15 (i) :: st) N g) : AW K Y h Q pc ls (vr 12 i :: st) N g := r_get (k := 12) (j := 3) (c := 0) (C := RX1) (T := TX1) (n := 8) (v := vr 15 (i)) rfl rfl (by decide) kWX1 rfl hlink (fun _ => rfl) (fun _ _ q => q) hat kk
theorem gf_X1_endWage {idx i : Nat} (hlink : Cond.fieldLink Y.1.cls idx RX1 "endWage" "I" ∈ TW) (hat : At Y pc (.getfield idx) 3 pc') (kk : AW K Y h Q pc' ls (vi (N 12 i 4) :: st) N g) : AW K Y h Q pc ls (vr 12 i :: st) N g := r_get (k := 12) (j := 4) (c := 0) (C := RX1) (T := TX1) (n := 8) (v := vi (N 12 i 4)) rfl rfl (by decide) kWX1 rfl hlink (fun _ => rfl) (fun _ _ _ => trivial) hat kk
theorem pf_X1_endWage {idx i : Nat} {z : Int} (hlink : Cond.fieldLink Y.1.cls idx RX1 "endWage" "I" ∈ TW) (hat : At Y pc (.putfield idx) 3 pc') (kk : AW K Y h Q pc' ls st (upN N 12 i 4 z) g) : AW K Y h Q pc ls (vi z :: vr 12 i :: st) N g := r_put (k := 12) (j := 4) (c := 0) (C := RX1) (T := TX1) (n := 8) (ty0 := tyX1) (ty := .int) (v := vi z) (z := z) rfl rfl (by decide) kWX1 rfl hlink tyX1_ok nmX1 rfl (by decide +kernel) (fun _ => rfl) (fun _ => rfl) (fun _ => by show Value.int (Int32.ofInt (upN N 12 i 4 z 12 i 4)) = _; rw [upN_eq]; rfl) hat kk
theorem gf_X1_endValue {idx i : Nat} (hlink : Cond.fieldLink Y.1.cls idx RX1 "endValue" "J" ∈ TW) (hat : At Y pc (.getfield idx) 3 pc') (kk : AW K Y h Q pc' ls (vl (N 12 i 5) :: st) N g) : AW K Y h Q pc ls (vr 12 i :: st) N g := r_get (k := 12) (j := 5) (c := 0) (C := RX1) (T := TX1) (n := 8) (v := vl (N 12 i 5)) rfl rfl (by decide) kWX1 rfl hlink (fun _ => rfl) (fun _ _ _ => trivial) hat kk
theorem pf_X1_endValue {idx i : Nat} {z : Int} (hlink : Cond.fieldLink Y.1.cls idx RX1 "endValue" "J" ∈ TW) (hat : At Y pc (.putfield idx) 3 pc') (kk : AW K Y h Q pc' ls st (upN N 12 i 5 z) g) : AW K Y h Q pc ls (vl z :: vr 12 i :: st) N g := r_put (k := 12) (j := 5) (c := 0) (C := RX1) (T := TX1) (n := 8) (ty0 := tyX1) (ty := .long) (v := vl z) (z := z) rfl rfl (by decide) kWX1 rfl hlink tyX1_ok nmX1 rfl (by decide +kernel) (fun _ => rfl) (fun _ => rfl) (fun _ => by show Value.long (Int64.ofInt (upN N 12 i 5 z 12 i 5)) = _; rw [upN_eq]; rfl) hat kk
theorem gf_X1_alone {idx i : Nat} (hlink : Cond.fieldLink Y.1.cls idx RX1 "alone" "Z" ∈ TW) (hat : At Y pc (.getfield idx) 3 pc') (kk : AW K Y h Q pc' ls (vi (N 12 i 6) :: st) N g) : AW K Y h Q pc ls (vr 12 i :: st) N g := r_get (k := 12) (j := 6) (c := 0) (C := RX1) (T := TX1) (n := 8) (v := vi (N 12 i 6)) rfl rfl (by decide) kWX1 rfl hlink (fun _ => rfl) (fun _ _ _ => trivial) hat kk
theorem pf_X1_alone {idx i : Nat} {z : Int} (hz : z = 0 ∨ z = 1) (hlink : Cond.fieldLink Y.1.cls idx RX1 "alone" "Z" ∈ TW) (hat : At Y pc (.putfield idx) 3 pc') (kk : AW K Y h Q pc' ls st (upN N 12 i 6 z) g) : AW K Y h Q pc ls (vi z :: vr 12 i :: st) N g := r_put (k := 12) (j := 6) (c := 0) (C := RX1) (T := TX1) (n := 8) (ty0 := tyX1) (ty := .boolean) (v := vi z) (z := z) rfl rfl (by decide) kWX1 rfl hlink tyX1_ok nmX1 rfl (by decide +kernel) (fun _ => by rcases hz with rfl | rfl <;> rfl) (fun _ => by rcases hz with rfl | rfl <;> rfl) (fun _ => by show Value.int (Int32.ofInt (upN N 12 i 6 z 12 i 6)) = _; rw [upN_eq]; rfl) hat kk
theorem gf_X1_seat {idx i : Nat} (hlink : Cond.fieldLink Y.1.cls idx RX1 "seat" "I" ∈ TW) (hat : At Y pc (.getfield idx) 3 pc') (kk : AW K Y h Q pc' ls (vi (N 12 i 7) :: st) N g) : AW K Y h Q pc ls (vr 12 i :: st) N g := r_get (k := 12) (j := 7) (c := 0) (C := RX1) (T := TX1) (n := 8) (v := vi (N 12 i 7)) rfl rfl (by decide) kWX1 rfl hlink (fun _ => rfl) (fun _ _ _ => trivial) hat kk
theorem pf_X1_seat {idx i : Nat} {z : Int} (hlink : Cond.fieldLink Y.1.cls idx RX1 "seat" "I" ∈ TW) (hat : At Y pc (.putfield idx) 3 pc') (kk : AW K Y h Q pc' ls st (upN N 12 i 7 z) g) : AW K Y h Q pc ls (vi z :: vr 12 i :: st) N g := r_put (k := 12) (j := 7) (c := 0) (C := RX1) (T := TX1) (n := 8) (ty0 := tyX1) (ty := .int) (v := vi z) (z := z) rfl rfl (by decide) kWX1 rfl hlink tyX1_ok nmX1 rfl (by decide +kernel) (fun _ => rfl) (fun _ => rfl) (fun _ => by show Value.int (Int32.ofInt (upN N 12 i 7 z 12 i 7)) = _; rw [upN_eq]; rfl) hat kk
theorem gf_X2_all {idx i : Nat} (hlink : Cond.fieldLink Y.1.cls idx RX2 "all" "[LPayPromise$Line;" ∈ TW) (hat : At Y pc (.getfield idx) 3 pc') (kk : AW K Y h Q pc' ls (vr 8 (0) :: st) N g) : AW K Y h Q pc ls (vr 7 i :: st) N g := r_get (k := 7) (j := 0) (c := 1) (C := RX2) (T := TX2) (n := 3) (v := vr 8 (0)) rfl rfl (by decide) kWX2 rfl hlink (fun _ => rfl) (fun _ _ _ => (show _ < _ by decide)) hat kk
theorem gf_X2_wagesOf {idx i : Nat} (hlink : Cond.fieldLink Y.1.cls idx RX2 "wagesOf" "[[I" ∈ TW) (hat : At Y pc (.getfield idx) 3 pc') (kk : AW K Y h Q pc' ls (vr 9 (0) :: st) N g) : AW K Y h Q pc ls (vr 7 i :: st) N g := r_get (k := 7) (j := 1) (c := 1) (C := RX2) (T := TX2) (n := 3) (v := vr 9 (0)) rfl rfl (by decide) kWX2 rfl hlink (fun _ => rfl) (fun _ _ _ => (show _ < _ by decide)) hat kk
theorem gf_X2_gains {idx i : Nat} (hlink : Cond.fieldLink Y.1.cls idx RX2 "gains" "[J" ∈ TW) (hat : At Y pc (.getfield idx) 3 pc') (kk : AW K Y h Q pc' ls (vr 11 (0) :: st) N g) : AW K Y h Q pc ls (vr 7 i :: st) N g := r_get (k := 7) (j := 2) (c := 1) (C := RX2) (T := TX2) (n := 3) (v := vr 11 (0)) rfl rfl (by decide) kWX2 rfl hlink (fun _ => rfl) (fun _ _ _ => (show _ < _ by decide)) hat kk
theorem gf_X3_sums {idx i : Nat} (hlink : Cond.fieldLink Y.1.cls idx RX3 "sums" "[J" ∈ TW) (hat : At Y pc (.getfield idx) 3 pc') (kk : AW K Y h Q pc' ls (vr 4 (0) :: st) N g) : AW K Y h Q pc ls (vr 3 i :: st) N g := r_get (k := 3) (j := 0) (c := 2) (C := RX3) (T := TX3) (n := 3) (v := vr 4 (0)) rfl rfl (by decide) kWX3 rfl hlink (fun _ => rfl) (fun _ _ _ => (show _ < _ by decide)) hat kk
theorem gf_X3_values {idx i : Nat} (hlink : Cond.fieldLink Y.1.cls idx RX3 "values" "[J" ∈ TW) (hat : At Y pc (.getfield idx) 3 pc') (kk : AW K Y h Q pc' ls (vr 5 (0) :: st) N g) : AW K Y h Q pc ls (vr 3 i :: st) N g := r_get (k := 3) (j := 1) (c := 2) (C := RX3) (T := TX3) (n := 3) (v := vr 5 (0)) rfl rfl (by decide) kWX3 rfl hlink (fun _ => rfl) (fun _ _ _ => (show _ < _ by decide)) hat kk
theorem gf_X3_segments {idx i : Nat} (hlink : Cond.fieldLink Y.1.cls idx RX3 "segments" "[I" ∈ TW) (hat : At Y pc (.getfield idx) 3 pc') (kk : AW K Y h Q pc' ls (vr 6 (0) :: st) N g) : AW K Y h Q pc ls (vr 3 i :: st) N g := r_get (k := 3) (j := 2) (c := 2) (C := RX3) (T := TX3) (n := 3) (v := vr 6 (0)) rfl rfl (by decide) kWX3 rfl hlink (fun _ => rfl) (fun _ _ _ => (show _ < _ by decide)) hat kk
theorem gf_X4_tape {idx i : Nat} (hlink : Cond.fieldLink Y.1.cls idx RX4 "tape" "[I" ∈ TW) (hat : At Y pc (.getfield idx) 3 pc') (kk : AW K Y h Q pc' ls (vr 2 (0) :: st) N g) : AW K Y h Q pc ls (vr 1 i :: st) N g := r_get (k := 1) (j := 0) (c := 3) (C := RX4) (T := TX4) (n := 5) (v := vr 2 (0)) rfl rfl (by decide) kWX4 rfl hlink (fun _ => rfl) (fun _ _ _ => (show _ < _ by decide)) hat kk
theorem gf_X4_length {idx i : Nat} (hlink : Cond.fieldLink Y.1.cls idx RX4 "length" "I" ∈ TW) (hat : At Y pc (.getfield idx) 3 pc') (kk : AW K Y h Q pc' ls (vi (N 1 i 1) :: st) N g) : AW K Y h Q pc ls (vr 1 i :: st) N g := r_get (k := 1) (j := 1) (c := 3) (C := RX4) (T := TX4) (n := 5) (v := vi (N 1 i 1)) rfl rfl (by decide) kWX4 rfl hlink (fun _ => rfl) (fun _ _ _ => trivial) hat kk
theorem pf_X4_length {idx i : Nat} {z : Int} (hlink : Cond.fieldLink Y.1.cls idx RX4 "length" "I" ∈ TW) (hat : At Y pc (.putfield idx) 3 pc') (kk : AW K Y h Q pc' ls st (upN N 1 i 1 z) g) : AW K Y h Q pc ls (vi z :: vr 1 i :: st) N g := r_put (k := 1) (j := 1) (c := 3) (C := RX4) (T := TX4) (n := 5) (ty0 := tyX4) (ty := .int) (v := vi z) (z := z) rfl rfl (by decide) kWX4 rfl hlink tyX4_ok nmX4 rfl (by decide +kernel) (fun _ => rfl) (fun _ => rfl) (fun _ => by show Value.int (Int32.ofInt (upN N 1 i 1 z 1 i 1)) = _; rw [upN_eq]; rfl) hat kk
theorem gf_X4_place {idx i : Nat} (hlink : Cond.fieldLink Y.1.cls idx RX4 "place" "I" ∈ TW) (hat : At Y pc (.getfield idx) 3 pc') (kk : AW K Y h Q pc' ls (vi (N 1 i 2) :: st) N g) : AW K Y h Q pc ls (vr 1 i :: st) N g := r_get (k := 1) (j := 2) (c := 3) (C := RX4) (T := TX4) (n := 5) (v := vi (N 1 i 2)) rfl rfl (by decide) kWX4 rfl hlink (fun _ => rfl) (fun _ _ _ => trivial) hat kk
theorem pf_X4_place {idx i : Nat} {z : Int} (hlink : Cond.fieldLink Y.1.cls idx RX4 "place" "I" ∈ TW) (hat : At Y pc (.putfield idx) 3 pc') (kk : AW K Y h Q pc' ls st (upN N 1 i 2 z) g) : AW K Y h Q pc ls (vi z :: vr 1 i :: st) N g := r_put (k := 1) (j := 2) (c := 3) (C := RX4) (T := TX4) (n := 5) (ty0 := tyX4) (ty := .int) (v := vi z) (z := z) rfl rfl (by decide) kWX4 rfl hlink tyX4_ok nmX4 rfl (by decide +kernel) (fun _ => rfl) (fun _ => rfl) (fun _ => by show Value.int (Int32.ofInt (upN N 1 i 2 z 1 i 2)) = _; rw [upN_eq]; rfl) hat kk
theorem gf_X4_wrong {idx i : Nat} (hlink : Cond.fieldLink Y.1.cls idx RX4 "wrong" "I" ∈ TW) (hat : At Y pc (.getfield idx) 3 pc') (kk : AW K Y h Q pc' ls (vi (N 1 i 3) :: st) N g) : AW K Y h Q pc ls (vr 1 i :: st) N g := r_get (k := 1) (j := 3) (c := 3) (C := RX4) (T := TX4) (n := 5) (v := vi (N 1 i 3)) rfl rfl (by decide) kWX4 rfl hlink (fun _ => rfl) (fun _ _ _ => trivial) hat kk
theorem pf_X4_wrong {idx i : Nat} {z : Int} (hlink : Cond.fieldLink Y.1.cls idx RX4 "wrong" "I" ∈ TW) (hat : At Y pc (.putfield idx) 3 pc') (kk : AW K Y h Q pc' ls st (upN N 1 i 3 z) g) : AW K Y h Q pc ls (vi z :: vr 1 i :: st) N g := r_put (k := 1) (j := 3) (c := 3) (C := RX4) (T := TX4) (n := 5) (ty0 := tyX4) (ty := .int) (v := vi z) (z := z) rfl rfl (by decide) kWX4 rfl hlink tyX4_ok nmX4 rfl (by decide +kernel) (fun _ => rfl) (fun _ => rfl) (fun _ => by show Value.int (Int32.ofInt (upN N 1 i 3 z 1 i 3)) = _; rw [upN_eq]; rfl) hat kk
theorem gf_X4_benefitTold {idx i : Nat} (hlink : Cond.fieldLink Y.1.cls idx RX4 "benefitTold" "Z" ∈ TW) (hat : At Y pc (.getfield idx) 3 pc') (kk : AW K Y h Q pc' ls (vi (N 1 i 4) :: st) N g) : AW K Y h Q pc ls (vr 1 i :: st) N g := r_get (k := 1) (j := 4) (c := 3) (C := RX4) (T := TX4) (n := 5) (v := vi (N 1 i 4)) rfl rfl (by decide) kWX4 rfl hlink (fun _ => rfl) (fun _ _ _ => trivial) hat kk
theorem pf_X4_benefitTold {idx i : Nat} {z : Int} (hz : z = 0 ∨ z = 1) (hlink : Cond.fieldLink Y.1.cls idx RX4 "benefitTold" "Z" ∈ TW) (hat : At Y pc (.putfield idx) 3 pc') (kk : AW K Y h Q pc' ls st (upN N 1 i 4 z) g) : AW K Y h Q pc ls (vi z :: vr 1 i :: st) N g := r_put (k := 1) (j := 4) (c := 3) (C := RX4) (T := TX4) (n := 5) (ty0 := tyX4) (ty := .boolean) (v := vi z) (z := z) rfl rfl (by decide) kWX4 rfl hlink tyX4_ok nmX4 rfl (by decide +kernel) (fun _ => by rcases hz with rfl | rfl <;> rfl) (fun _ => by rcases hz with rfl | rfl <;> rfl) (fun _ => by show Value.int (Int32.ofInt (upN N 1 i 4 z 1 i 4)) = _; rw [upN_eq]; rfl) hat kk
theorem gf_X5_accounts {idx i : Nat} (hlink : Cond.fieldLink Y.1.cls idx RX5 "accounts" "I" ∈ TW) (hat : At Y pc (.getfield idx) 3 pc') (kk : AW K Y h Q pc' ls (vi (N 20 i 0) :: st) N g) : AW K Y h Q pc ls (vr 20 i :: st) N g := r_get (k := 20) (j := 0) (c := 4) (C := RX5) (T := TX5) (n := 11) (v := vi (N 20 i 0)) rfl rfl (by decide) kWX5 rfl hlink (fun _ => rfl) (fun _ _ _ => trivial) hat kk
theorem pf_X5_accounts {idx i : Nat} {z : Int} (hlink : Cond.fieldLink Y.1.cls idx RX5 "accounts" "I" ∈ TW) (hat : At Y pc (.putfield idx) 3 pc') (kk : AW K Y h Q pc' ls st (upN N 20 i 0 z) g) : AW K Y h Q pc ls (vi z :: vr 20 i :: st) N g := r_put (k := 20) (j := 0) (c := 4) (C := RX5) (T := TX5) (n := 11) (ty0 := tyX5) (ty := .int) (v := vi z) (z := z) rfl rfl (by decide) kWX5 rfl hlink tyX5_ok nmX5 rfl (by decide +kernel) (fun _ => rfl) (fun _ => rfl) (fun _ => by show Value.int (Int32.ofInt (upN N 20 i 0 z 20 i 0)) = _; rw [upN_eq]; rfl) hat kk
theorem gf_X5_benefit {idx i : Nat} (hlink : Cond.fieldLink Y.1.cls idx RX5 "benefit" "I" ∈ TW) (hat : At Y pc (.getfield idx) 3 pc') (kk : AW K Y h Q pc' ls (vi (N 20 i 1) :: st) N g) : AW K Y h Q pc ls (vr 20 i :: st) N g := r_get (k := 20) (j := 1) (c := 4) (C := RX5) (T := TX5) (n := 11) (v := vi (N 20 i 1)) rfl rfl (by decide) kWX5 rfl hlink (fun _ => rfl) (fun _ _ _ => trivial) hat kk
theorem pf_X5_benefit {idx i : Nat} {z : Int} (hlink : Cond.fieldLink Y.1.cls idx RX5 "benefit" "I" ∈ TW) (hat : At Y pc (.putfield idx) 3 pc') (kk : AW K Y h Q pc' ls st (upN N 20 i 1 z) g) : AW K Y h Q pc ls (vi z :: vr 20 i :: st) N g := r_put (k := 20) (j := 1) (c := 4) (C := RX5) (T := TX5) (n := 11) (ty0 := tyX5) (ty := .int) (v := vi z) (z := z) rfl rfl (by decide) kWX5 rfl hlink tyX5_ok nmX5 rfl (by decide +kernel) (fun _ => rfl) (fun _ => rfl) (fun _ => by show Value.int (Int32.ofInt (upN N 20 i 1 z 20 i 1)) = _; rw [upN_eq]; rfl) hat kk
theorem gf_X5_termCounts {idx i : Nat} (hlink : Cond.fieldLink Y.1.cls idx RX5 "termCounts" "[I" ∈ TW) (hat : At Y pc (.getfield idx) 3 pc') (kk : AW K Y h Q pc' ls (vr 21 (i) :: st) N g) : AW K Y h Q pc ls (vr 20 i :: st) N g := r_get (k := 20) (j := 2) (c := 4) (C := RX5) (T := TX5) (n := 11) (v := vr 21 (i)) rfl rfl (by decide) kWX5 rfl hlink (fun _ => rfl) (fun _ _ q => q) hat kk
theorem gf_X5_terms {idx i : Nat} (hlink : Cond.fieldLink Y.1.cls idx RX5 "terms" "[[I" ∈ TW) (hat : At Y pc (.getfield idx) 3 pc') (kk : AW K Y h Q pc' ls (vr 22 (i) :: st) N g) : AW K Y h Q pc ls (vr 20 i :: st) N g := r_get (k := 20) (j := 3) (c := 4) (C := RX5) (T := TX5) (n := 11) (v := vr 22 (i)) rfl rfl (by decide) kWX5 rfl hlink (fun _ => rfl) (fun _ _ q => q) hat kk
theorem gf_X5_signs {idx i : Nat} (hlink : Cond.fieldLink Y.1.cls idx RX5 "signs" "[[I" ∈ TW) (hat : At Y pc (.getfield idx) 3 pc') (kk : AW K Y h Q pc' ls (vr 24 (i) :: st) N g) : AW K Y h Q pc ls (vr 20 i :: st) N g := r_get (k := 20) (j := 4) (c := 4) (C := RX5) (T := TX5) (n := 11) (v := vr 24 (i)) rfl rfl (by decide) kWX5 rfl hlink (fun _ => rfl) (fun _ _ q => q) hat kk
theorem gf_X5_depths {idx i : Nat} (hlink : Cond.fieldLink Y.1.cls idx RX5 "depths" "[I" ∈ TW) (hat : At Y pc (.getfield idx) 3 pc') (kk : AW K Y h Q pc' ls (vr 26 (i) :: st) N g) : AW K Y h Q pc ls (vr 20 i :: st) N g := r_get (k := 20) (j := 5) (c := 4) (C := RX5) (T := TX5) (n := 11) (v := vr 26 (i)) rfl rfl (by decide) kWX5 rfl hlink (fun _ => rfl) (fun _ _ q => q) hat kk
theorem gf_X5_segmentCounts {idx i : Nat} (hlink : Cond.fieldLink Y.1.cls idx RX5 "segmentCounts" "[I" ∈ TW) (hat : At Y pc (.getfield idx) 3 pc') (kk : AW K Y h Q pc' ls (vr 27 (i) :: st) N g) : AW K Y h Q pc ls (vr 20 i :: st) N g := r_get (k := 20) (j := 6) (c := 4) (C := RX5) (T := TX5) (n := 11) (v := vr 27 (i)) rfl rfl (by decide) kWX5 rfl hlink (fun _ => rfl) (fun _ _ q => q) hat kk
theorem gf_X5_froms {idx i : Nat} (hlink : Cond.fieldLink Y.1.cls idx RX5 "froms" "[[I" ∈ TW) (hat : At Y pc (.getfield idx) 3 pc') (kk : AW K Y h Q pc' ls (vr 28 (i) :: st) N g) : AW K Y h Q pc ls (vr 20 i :: st) N g := r_get (k := 20) (j := 7) (c := 4) (C := RX5) (T := TX5) (n := 11) (v := vr 28 (i)) rfl rfl (by decide) kWX5 rfl hlink (fun _ => rfl) (fun _ _ q => q) hat kk
theorem gf_X5_ats {idx i : Nat} (hlink : Cond.fieldLink Y.1.cls idx RX5 "ats" "[[I" ∈ TW) (hat : At Y pc (.getfield idx) 3 pc') (kk : AW K Y h Q pc' ls (vr 30 (i) :: st) N g) : AW K Y h Q pc ls (vr 20 i :: st) N g := r_get (k := 20) (j := 8) (c := 4) (C := RX5) (T := TX5) (n := 11) (v := vr 30 (i)) rfl rfl (by decide) kWX5 rfl hlink (fun _ => rfl) (fun _ _ q => q) hat kk
theorem gf_X5_slopes {idx i : Nat} (hlink : Cond.fieldLink Y.1.cls idx RX5 "slopes" "[[I" ∈ TW) (hat : At Y pc (.getfield idx) 3 pc') (kk : AW K Y h Q pc' ls (vr 32 (i) :: st) N g) : AW K Y h Q pc ls (vr 20 i :: st) N g := r_get (k := 20) (j := 9) (c := 4) (C := RX5) (T := TX5) (n := 11) (v := vr 32 (i)) rfl rfl (by decide) kWX5 rfl hlink (fun _ => rfl) (fun _ _ q => q) hat kk
theorem gf_X5_bases {idx i : Nat} (hlink : Cond.fieldLink Y.1.cls idx RX5 "bases" "[[J" ∈ TW) (hat : At Y pc (.getfield idx) 3 pc') (kk : AW K Y h Q pc' ls (vr 34 (i) :: st) N g) : AW K Y h Q pc ls (vr 20 i :: st) N g := r_get (k := 20) (j := 10) (c := 4) (C := RX5) (T := TX5) (n := 11) (v := vr 34 (i)) rfl rfl (by decide) kWX5 rfl hlink (fun _ => rfl) (fun _ _ q => q) hat kk
theorem gf_X6_written {idx i : Nat} (hlink : Cond.fieldLink Y.1.cls idx RX6 "written" "I" ∈ TW) (hat : At Y pc (.getfield idx) 3 pc') (kk : AW K Y h Q pc' ls (vi (N 18 i 0) :: st) N g) : AW K Y h Q pc ls (vr 18 i :: st) N g := r_get (k := 18) (j := 0) (c := 5) (C := RX6) (T := TX6) (n := 3) (v := vi (N 18 i 0)) rfl rfl (by decide) kWX6 rfl hlink (fun _ => rfl) (fun _ _ _ => trivial) hat kk
theorem pf_X6_written {idx i : Nat} {z : Int} (hlink : Cond.fieldLink Y.1.cls idx RX6 "written" "I" ∈ TW) (hat : At Y pc (.putfield idx) 3 pc') (kk : AW K Y h Q pc' ls st (upN N 18 i 0 z) g) : AW K Y h Q pc ls (vi z :: vr 18 i :: st) N g := r_put (k := 18) (j := 0) (c := 5) (C := RX6) (T := TX6) (n := 3) (ty0 := tyX6) (ty := .int) (v := vi z) (z := z) rfl rfl (by decide) kWX6 rfl hlink tyX6_ok nmX6 rfl (by decide +kernel) (fun _ => rfl) (fun _ => rfl) (fun _ => by show Value.int (Int32.ofInt (upN N 18 i 0 z 18 i 0)) = _; rw [upN_eq]; rfl) hat kk
theorem gf_X6_wanted {idx i : Nat} (hlink : Cond.fieldLink Y.1.cls idx RX6 "wanted" "I" ∈ TW) (hat : At Y pc (.getfield idx) 3 pc') (kk : AW K Y h Q pc' ls (vi (N 18 i 1) :: st) N g) : AW K Y h Q pc ls (vr 18 i :: st) N g := r_get (k := 18) (j := 1) (c := 5) (C := RX6) (T := TX6) (n := 3) (v := vi (N 18 i 1)) rfl rfl (by decide) kWX6 rfl hlink (fun _ => rfl) (fun _ _ _ => trivial) hat kk
theorem pf_X6_wanted {idx i : Nat} {z : Int} (hlink : Cond.fieldLink Y.1.cls idx RX6 "wanted" "I" ∈ TW) (hat : At Y pc (.putfield idx) 3 pc') (kk : AW K Y h Q pc' ls st (upN N 18 i 1 z) g) : AW K Y h Q pc ls (vi z :: vr 18 i :: st) N g := r_put (k := 18) (j := 1) (c := 5) (C := RX6) (T := TX6) (n := 3) (ty0 := tyX6) (ty := .int) (v := vi z) (z := z) rfl rfl (by decide) kWX6 rfl hlink tyX6_ok nmX6 rfl (by decide +kernel) (fun _ => rfl) (fun _ => rfl) (fun _ => by show Value.int (Int32.ofInt (upN N 18 i 1 z 18 i 1)) = _; rw [upN_eq]; rfl) hat kk
theorem gf_X6_found {idx i : Nat} (hlink : Cond.fieldLink Y.1.cls idx RX6 "found" "I" ∈ TW) (hat : At Y pc (.getfield idx) 3 pc') (kk : AW K Y h Q pc' ls (vi (N 18 i 2) :: st) N g) : AW K Y h Q pc ls (vr 18 i :: st) N g := r_get (k := 18) (j := 2) (c := 5) (C := RX6) (T := TX6) (n := 3) (v := vi (N 18 i 2)) rfl rfl (by decide) kWX6 rfl hlink (fun _ => rfl) (fun _ _ _ => trivial) hat kk
theorem pf_X6_found {idx i : Nat} {z : Int} (hlink : Cond.fieldLink Y.1.cls idx RX6 "found" "I" ∈ TW) (hat : At Y pc (.putfield idx) 3 pc') (kk : AW K Y h Q pc' ls st (upN N 18 i 2 z) g) : AW K Y h Q pc ls (vi z :: vr 18 i :: st) N g := r_put (k := 18) (j := 2) (c := 5) (C := RX6) (T := TX6) (n := 3) (ty0 := tyX6) (ty := .int) (v := vi z) (z := z) rfl rfl (by decide) kWX6 rfl hlink tyX6_ok nmX6 rfl (by decide +kernel) (fun _ => rfl) (fun _ => rfl) (fun _ => by show Value.int (Int32.ofInt (upN N 18 i 2 z 18 i 2)) = _; rw [upN_eq]; rfl) hat kk
theorem gf_X8_wages {idx i : Nat} (hlink : Cond.fieldLink Y.1.cls idx RX8 "wages" "[I" ∈ TW) (hat : At Y pc (.getfield idx) 3 pc') (kk : AW K Y h Q pc' ls (vr 17 (0) :: st) N g) : AW K Y h Q pc ls (vr 16 i :: st) N g := r_get (k := 16) (j := 0) (c := 6) (C := RX8) (T := TX8) (n := 2) (v := vr 17 (0)) rfl rfl (by decide) kWX8 rfl hlink (fun _ => rfl) (fun _ _ _ => (show _ < _ by decide)) hat kk
theorem gf_X8_passed {idx i : Nat} (hlink : Cond.fieldLink Y.1.cls idx RX8 "passed" "I" ∈ TW) (hat : At Y pc (.getfield idx) 3 pc') (kk : AW K Y h Q pc' ls (vi (N 16 i 1) :: st) N g) : AW K Y h Q pc ls (vr 16 i :: st) N g := r_get (k := 16) (j := 1) (c := 6) (C := RX8) (T := TX8) (n := 2) (v := vi (N 16 i 1)) rfl rfl (by decide) kWX8 rfl hlink (fun _ => rfl) (fun _ _ _ => trivial) hat kk
theorem pf_X8_passed {idx i : Nat} {z : Int} (hlink : Cond.fieldLink Y.1.cls idx RX8 "passed" "I" ∈ TW) (hat : At Y pc (.putfield idx) 3 pc') (kk : AW K Y h Q pc' ls st (upN N 16 i 1 z) g) : AW K Y h Q pc ls (vi z :: vr 16 i :: st) N g := r_put (k := 16) (j := 1) (c := 6) (C := RX8) (T := TX8) (n := 2) (ty0 := tyX8) (ty := .int) (v := vi z) (z := z) rfl rfl (by decide) kWX8 rfl hlink tyX8_ok nmX8 rfl (by decide +kernel) (fun _ => rfl) (fun _ => rfl) (fun _ => by show Value.int (Int32.ofInt (upN N 16 i 1 z 16 i 1)) = _; rw [upN_eq]; rfl) hat kk
theorem gf_X9_reader {idx i : Nat} (hlink : Cond.fieldLink Y.1.cls idx RX9 "reader" "LPayPromise$Reader;" ∈ TW) (hat : At Y pc (.getfield idx) 3 pc') (kk : AW K Y h Q pc' ls (vr 1 (0) :: st) N g) : AW K Y h Q pc ls (vr 0 i :: st) N g := r_get (k := 0) (j := 0) (c := 7) (C := RX9) (T := TX9) (n := 11) (v := vr 1 (0)) rfl rfl (by decide) kWX9 rfl hlink (fun _ => rfl) (fun _ _ _ => (show _ < _ by decide)) hat kk
theorem gf_X9_point {idx i : Nat} (hlink : Cond.fieldLink Y.1.cls idx RX9 "point" "LPayPromise$Point;" ∈ TW) (hat : At Y pc (.getfield idx) 3 pc') (kk : AW K Y h Q pc' ls (vr 3 (0) :: st) N g) : AW K Y h Q pc ls (vr 0 i :: st) N g := r_get (k := 0) (j := 1) (c := 7) (C := RX9) (T := TX9) (n := 11) (v := vr 3 (0)) rfl rfl (by decide) kWX9 rfl hlink (fun _ => rfl) (fun _ _ _ => (show _ < _ by decide)) hat kk
theorem gf_X9_lines {idx i : Nat} (hlink : Cond.fieldLink Y.1.cls idx RX9 "lines" "LPayPromise$Lines;" ∈ TW) (hat : At Y pc (.getfield idx) 3 pc') (kk : AW K Y h Q pc' ls (vr 7 (0) :: st) N g) : AW K Y h Q pc ls (vr 0 i :: st) N g := r_get (k := 0) (j := 2) (c := 7) (C := RX9) (T := TX9) (n := 11) (v := vr 7 (0)) rfl rfl (by decide) kWX9 rfl hlink (fun _ => rfl) (fun _ _ _ => (show _ < _ by decide)) hat kk
theorem gf_X9_between {idx i : Nat} (hlink : Cond.fieldLink Y.1.cls idx RX9 "between" "LPayPromise$Line;" ∈ TW) (hat : At Y pc (.getfield idx) 3 pc') (kk : AW K Y h Q pc' ls (vr 12 (7) :: st) N g) : AW K Y h Q pc ls (vr 0 i :: st) N g := r_get (k := 0) (j := 3) (c := 7) (C := RX9) (T := TX9) (n := 11) (v := vr 12 (7)) rfl rfl (by decide) kWX9 rfl hlink (fun _ => rfl) (fun _ _ _ => (show _ < _ by decide)) hat kk
theorem gf_X9_months {idx i : Nat} (hlink : Cond.fieldLink Y.1.cls idx RX9 "months" "LPayPromise$Year;" ∈ TW) (hat : At Y pc (.getfield idx) 3 pc') (kk : AW K Y h Q pc' ls (vr 16 (0) :: st) N g) : AW K Y h Q pc ls (vr 0 i :: st) N g := r_get (k := 0) (j := 4) (c := 7) (C := RX9) (T := TX9) (n := 11) (v := vr 16 (0)) rfl rfl (by decide) kWX9 rfl hlink (fun _ => rfl) (fun _ _ _ => (show _ < _ by decide)) hat kk
theorem gf_X9_speller {idx i : Nat} (hlink : Cond.fieldLink Y.1.cls idx RX9 "speller" "LPayPromise$Speller;" ∈ TW) (hat : At Y pc (.getfield idx) 3 pc') (kk : AW K Y h Q pc' ls (vr 18 (0) :: st) N g) : AW K Y h Q pc ls (vr 0 i :: st) N g := r_get (k := 0) (j := 5) (c := 7) (C := RX9) (T := TX9) (n := 11) (v := vr 18 (0)) rfl rfl (by decide) kWX9 rfl hlink (fun _ => rfl) (fun _ _ _ => (show _ < _ by decide)) hat kk
theorem gf_X9_refusals {idx i : Nat} (hlink : Cond.fieldLink Y.1.cls idx RX9 "refusals" "[I" ∈ TW) (hat : At Y pc (.getfield idx) 3 pc') (kk : AW K Y h Q pc' ls (vr 19 (0) :: st) N g) : AW K Y h Q pc ls (vr 0 i :: st) N g := r_get (k := 0) (j := 6) (c := 7) (C := RX9) (T := TX9) (n := 11) (v := vr 19 (0)) rfl rfl (by decide) kWX9 rfl hlink (fun _ => rfl) (fun _ _ _ => (show _ < _ by decide)) hat kk
theorem gf_X9_rules {idx i : Nat} (hlink : Cond.fieldLink Y.1.cls idx RX9 "rules" "LPayPromise$Rules;" ∈ TW) (hat : At Y pc (.getfield idx) 3 pc') (kk : AW K Y h Q pc' ls (vr 20 (g.1) :: st) N g) : AW K Y h Q pc ls (vr 0 i :: st) N g := r_get (k := 0) (j := 7) (c := 7) (C := RX9) (T := TX9) (n := 11) (v := vr 20 (g.1)) rfl rfl (by decide) kWX9 rfl hlink (fun _ => rfl) (fun q _ _ => q) hat kk
theorem gf_X9_draft {idx i : Nat} (hlink : Cond.fieldLink Y.1.cls idx RX9 "draft" "LPayPromise$Rules;" ∈ TW) (hat : At Y pc (.getfield idx) 3 pc') (kk : AW K Y h Q pc' ls (vr 20 (g.2.1) :: st) N g) : AW K Y h Q pc ls (vr 0 i :: st) N g := r_get (k := 0) (j := 8) (c := 7) (C := RX9) (T := TX9) (n := 11) (v := vr 20 (g.2.1)) rfl rfl (by decide) kWX9 rfl hlink (fun _ => rfl) (fun _ q _ => q) hat kk
theorem gf_X9_hasDesk {idx i : Nat} (hlink : Cond.fieldLink Y.1.cls idx RX9 "hasDesk" "Z" ∈ TW) (hat : At Y pc (.getfield idx) 3 pc') (kk : AW K Y h Q pc' ls (vi (N 0 i 9) :: st) N g) : AW K Y h Q pc ls (vr 0 i :: st) N g := r_get (k := 0) (j := 9) (c := 7) (C := RX9) (T := TX9) (n := 11) (v := vi (N 0 i 9)) rfl rfl (by decide) kWX9 rfl hlink (fun _ => rfl) (fun _ _ _ => trivial) hat kk
theorem pf_X9_hasDesk {idx i : Nat} {z : Int} (hz : z = 0 ∨ z = 1) (hlink : Cond.fieldLink Y.1.cls idx RX9 "hasDesk" "Z" ∈ TW) (hat : At Y pc (.putfield idx) 3 pc') (kk : AW K Y h Q pc' ls st (upN N 0 i 9 z) g) : AW K Y h Q pc ls (vi z :: vr 0 i :: st) N g := r_put (k := 0) (j := 9) (c := 7) (C := RX9) (T := TX9) (n := 11) (ty0 := tyX9) (ty := .boolean) (v := vi z) (z := z) rfl rfl (by decide) kWX9 rfl hlink tyX9_ok nmX9 rfl (by decide +kernel) (fun _ => by rcases hz with rfl | rfl <;> rfl) (fun _ => by rcases hz with rfl | rfl <;> rfl) (fun _ => by show Value.int (Int32.ofInt (upN N 0 i 9 z 0 i 9)) = _; rw [upN_eq]; rfl) hat kk
theorem gf_X9_stale {idx i : Nat} (hlink : Cond.fieldLink Y.1.cls idx RX9 "stale" "Z" ∈ TW) (hat : At Y pc (.getfield idx) 3 pc') (kk : AW K Y h Q pc' ls (vi (N 0 i 10) :: st) N g) : AW K Y h Q pc ls (vr 0 i :: st) N g := r_get (k := 0) (j := 10) (c := 7) (C := RX9) (T := TX9) (n := 11) (v := vi (N 0 i 10)) rfl rfl (by decide) kWX9 rfl hlink (fun _ => rfl) (fun _ _ _ => trivial) hat kk
theorem pf_X9_stale {idx i : Nat} {z : Int} (hz : z = 0 ∨ z = 1) (hlink : Cond.fieldLink Y.1.cls idx RX9 "stale" "Z" ∈ TW) (hat : At Y pc (.putfield idx) 3 pc') (kk : AW K Y h Q pc' ls st (upN N 0 i 10 z) g) : AW K Y h Q pc ls (vi z :: vr 0 i :: st) N g := r_put (k := 0) (j := 10) (c := 7) (C := RX9) (T := TX9) (n := 11) (ty0 := tyX9) (ty := .boolean) (v := vi z) (z := z) rfl rfl (by decide) kWX9 rfl hlink tyX9_ok nmX9 rfl (by decide +kernel) (fun _ => by rcases hz with rfl | rfl <;> rfl) (fun _ => by rcases hz with rfl | rfl <;> rfl) (fun _ => by show Value.int (Int32.ofInt (upN N 0 i 10 z 0 i 10)) = _; rw [upN_eq]; rfl) hat kk
theorem gf_X10_thrown {idx i : Nat} (hlink : Cond.fieldLink Y.1.cls idx RX10 "thrown" "I" ∈ TW) (hat : At Y pc (.getfield idx) 3 pc') (kk : AW K Y h Q pc' ls (vi (N 40 i 0) :: st) N g) : AW K Y h Q pc ls (vr 40 i :: st) N g := r_get (k := 40) (j := 0) (c := 8) (C := RX10) (T := TX10) (n := 34) (v := vi (N 40 i 0)) rfl rfl (by decide) kWX10 rfl hlink (fun _ => rfl) (fun _ _ _ => trivial) hat kk
theorem pf_X10_thrown {idx i : Nat} {z : Int} (hlink : Cond.fieldLink Y.1.cls idx RX10 "thrown" "I" ∈ TW) (hat : At Y pc (.putfield idx) 3 pc') (kk : AW K Y h Q pc' ls st (upN N 40 i 0 z) g) : AW K Y h Q pc ls (vi z :: vr 40 i :: st) N g := r_put (k := 40) (j := 0) (c := 8) (C := RX10) (T := TX10) (n := 34) (ty0 := tyX10) (ty := .int) (v := vi z) (z := z) rfl rfl (by decide) kWX10 rfl hlink tyX10_ok nmX10 rfl (by decide +kernel) (fun _ => rfl) (fun _ => rfl) (fun _ => by show Value.int (Int32.ofInt (upN N 40 i 0 z 40 i 0)) = _; rw [upN_eq]; rfl) hat kk
theorem gf_X10_tape {idx i : Nat} (hlink : Cond.fieldLink Y.1.cls idx RX10 "tape" "[I" ∈ TW) (hat : At Y pc (.getfield idx) 3 pc') (kk : AW K Y h Q pc' ls (vr 41 (0) :: st) N g) : AW K Y h Q pc ls (vr 40 i :: st) N g := r_get (k := 40) (j := 1) (c := 8) (C := RX10) (T := TX10) (n := 34) (v := vr 41 (0)) rfl rfl (by decide) kWX10 rfl hlink (fun _ => rfl) (fun _ _ _ => (show _ < _ by decide)) hat kk
theorem gf_X10_taped {idx i : Nat} (hlink : Cond.fieldLink Y.1.cls idx RX10 "taped" "I" ∈ TW) (hat : At Y pc (.getfield idx) 3 pc') (kk : AW K Y h Q pc' ls (vi (N 40 i 2) :: st) N g) : AW K Y h Q pc ls (vr 40 i :: st) N g := r_get (k := 40) (j := 2) (c := 8) (C := RX10) (T := TX10) (n := 34) (v := vi (N 40 i 2)) rfl rfl (by decide) kWX10 rfl hlink (fun _ => rfl) (fun _ _ _ => trivial) hat kk
theorem pf_X10_taped {idx i : Nat} {z : Int} (hlink : Cond.fieldLink Y.1.cls idx RX10 "taped" "I" ∈ TW) (hat : At Y pc (.putfield idx) 3 pc') (kk : AW K Y h Q pc' ls st (upN N 40 i 2 z) g) : AW K Y h Q pc ls (vi z :: vr 40 i :: st) N g := r_put (k := 40) (j := 2) (c := 8) (C := RX10) (T := TX10) (n := 34) (ty0 := tyX10) (ty := .int) (v := vi z) (z := z) rfl rfl (by decide) kWX10 rfl hlink tyX10_ok nmX10 rfl (by decide +kernel) (fun _ => rfl) (fun _ => rfl) (fun _ => by show Value.int (Int32.ofInt (upN N 40 i 2 z 40 i 2)) = _; rw [upN_eq]; rfl) hat kk
theorem gf_X10_at {idx i : Nat} (hlink : Cond.fieldLink Y.1.cls idx RX10 "at" "I" ∈ TW) (hat : At Y pc (.getfield idx) 3 pc') (kk : AW K Y h Q pc' ls (vi (N 40 i 3) :: st) N g) : AW K Y h Q pc ls (vr 40 i :: st) N g := r_get (k := 40) (j := 3) (c := 8) (C := RX10) (T := TX10) (n := 34) (v := vi (N 40 i 3)) rfl rfl (by decide) kWX10 rfl hlink (fun _ => rfl) (fun _ _ _ => trivial) hat kk
theorem pf_X10_at {idx i : Nat} {z : Int} (hlink : Cond.fieldLink Y.1.cls idx RX10 "at" "I" ∈ TW) (hat : At Y pc (.putfield idx) 3 pc') (kk : AW K Y h Q pc' ls st (upN N 40 i 3 z) g) : AW K Y h Q pc ls (vi z :: vr 40 i :: st) N g := r_put (k := 40) (j := 3) (c := 8) (C := RX10) (T := TX10) (n := 34) (ty0 := tyX10) (ty := .int) (v := vi z) (z := z) rfl rfl (by decide) kWX10 rfl hlink tyX10_ok nmX10 rfl (by decide +kernel) (fun _ => rfl) (fun _ => rfl) (fun _ => by show Value.int (Int32.ofInt (upN N 40 i 3 z 40 i 3)) = _; rw [upN_eq]; rfl) hat kk
theorem gf_X10_wrong {idx i : Nat} (hlink : Cond.fieldLink Y.1.cls idx RX10 "wrong" "I" ∈ TW) (hat : At Y pc (.getfield idx) 3 pc') (kk : AW K Y h Q pc' ls (vi (N 40 i 4) :: st) N g) : AW K Y h Q pc ls (vr 40 i :: st) N g := r_get (k := 40) (j := 4) (c := 8) (C := RX10) (T := TX10) (n := 34) (v := vi (N 40 i 4)) rfl rfl (by decide) kWX10 rfl hlink (fun _ => rfl) (fun _ _ _ => trivial) hat kk
theorem pf_X10_wrong {idx i : Nat} {z : Int} (hlink : Cond.fieldLink Y.1.cls idx RX10 "wrong" "I" ∈ TW) (hat : At Y pc (.putfield idx) 3 pc') (kk : AW K Y h Q pc' ls st (upN N 40 i 4 z) g) : AW K Y h Q pc ls (vi z :: vr 40 i :: st) N g := r_put (k := 40) (j := 4) (c := 8) (C := RX10) (T := TX10) (n := 34) (ty0 := tyX10) (ty := .int) (v := vi z) (z := z) rfl rfl (by decide) kWX10 rfl hlink tyX10_ok nmX10 rfl (by decide +kernel) (fun _ => rfl) (fun _ => rfl) (fun _ => by show Value.int (Int32.ofInt (upN N 40 i 4 z 40 i 4)) = _; rw [upN_eq]; rfl) hat kk
theorem gf_X10_readTerms {idx i : Nat} (hlink : Cond.fieldLink Y.1.cls idx RX10 "readTerms" "[I" ∈ TW) (hat : At Y pc (.getfield idx) 3 pc') (kk : AW K Y h Q pc' ls (vr 42 (0) :: st) N g) : AW K Y h Q pc ls (vr 40 i :: st) N g := r_get (k := 40) (j := 5) (c := 8) (C := RX10) (T := TX10) (n := 34) (v := vr 42 (0)) rfl rfl (by decide) kWX10 rfl hlink (fun _ => rfl) (fun _ _ _ => (show _ < _ by decide)) hat kk
theorem gf_X10_terms {idx i : Nat} (hlink : Cond.fieldLink Y.1.cls idx RX10 "terms" "[I" ∈ TW) (hat : At Y pc (.getfield idx) 3 pc') (kk : AW K Y h Q pc' ls (vr 43 (0) :: st) N g) : AW K Y h Q pc ls (vr 40 i :: st) N g := r_get (k := 40) (j := 6) (c := 8) (C := RX10) (T := TX10) (n := 34) (v := vr 43 (0)) rfl rfl (by decide) kWX10 rfl hlink (fun _ => rfl) (fun _ _ _ => (show _ < _ by decide)) hat kk
theorem gf_X10_readSign {idx i : Nat} (hlink : Cond.fieldLink Y.1.cls idx RX10 "readSign" "[I" ∈ TW) (hat : At Y pc (.getfield idx) 3 pc') (kk : AW K Y h Q pc' ls (vr 44 (0) :: st) N g) : AW K Y h Q pc ls (vr 40 i :: st) N g := r_get (k := 40) (j := 7) (c := 8) (C := RX10) (T := TX10) (n := 34) (v := vr 44 (0)) rfl rfl (by decide) kWX10 rfl hlink (fun _ => rfl) (fun _ _ _ => (show _ < _ by decide)) hat kk
theorem gf_X10_sign {idx i : Nat} (hlink : Cond.fieldLink Y.1.cls idx RX10 "sign" "[I" ∈ TW) (hat : At Y pc (.getfield idx) 3 pc') (kk : AW K Y h Q pc' ls (vr 45 (0) :: st) N g) : AW K Y h Q pc ls (vr 40 i :: st) N g := r_get (k := 40) (j := 8) (c := 8) (C := RX10) (T := TX10) (n := 34) (v := vr 45 (0)) rfl rfl (by decide) kWX10 rfl hlink (fun _ => rfl) (fun _ _ _ => (show _ < _ by decide)) hat kk
theorem gf_X10_readWhat {idx i : Nat} (hlink : Cond.fieldLink Y.1.cls idx RX10 "readWhat" "[I" ∈ TW) (hat : At Y pc (.getfield idx) 3 pc') (kk : AW K Y h Q pc' ls (vr 46 (0) :: st) N g) : AW K Y h Q pc ls (vr 40 i :: st) N g := r_get (k := 40) (j := 9) (c := 8) (C := RX10) (T := TX10) (n := 34) (v := vr 46 (0)) rfl rfl (by decide) kWX10 rfl hlink (fun _ => rfl) (fun _ _ _ => (show _ < _ by decide)) hat kk
theorem gf_X10_what {idx i : Nat} (hlink : Cond.fieldLink Y.1.cls idx RX10 "what" "[I" ∈ TW) (hat : At Y pc (.getfield idx) 3 pc') (kk : AW K Y h Q pc' ls (vr 47 (0) :: st) N g) : AW K Y h Q pc ls (vr 40 i :: st) N g := r_get (k := 40) (j := 10) (c := 8) (C := RX10) (T := TX10) (n := 34) (v := vr 47 (0)) rfl rfl (by decide) kWX10 rfl hlink (fun _ => rfl) (fun _ _ _ => (show _ < _ by decide)) hat kk
theorem gf_X10_readMany {idx i : Nat} (hlink : Cond.fieldLink Y.1.cls idx RX10 "readMany" "[I" ∈ TW) (hat : At Y pc (.getfield idx) 3 pc') (kk : AW K Y h Q pc' ls (vr 48 (0) :: st) N g) : AW K Y h Q pc ls (vr 40 i :: st) N g := r_get (k := 40) (j := 11) (c := 8) (C := RX10) (T := TX10) (n := 34) (v := vr 48 (0)) rfl rfl (by decide) kWX10 rfl hlink (fun _ => rfl) (fun _ _ _ => (show _ < _ by decide)) hat kk
theorem gf_X10_many {idx i : Nat} (hlink : Cond.fieldLink Y.1.cls idx RX10 "many" "[I" ∈ TW) (hat : At Y pc (.getfield idx) 3 pc') (kk : AW K Y h Q pc' ls (vr 49 (0) :: st) N g) : AW K Y h Q pc ls (vr 40 i :: st) N g := r_get (k := 40) (j := 12) (c := 8) (C := RX10) (T := TX10) (n := 34) (v := vr 49 (0)) rfl rfl (by decide) kWX10 rfl hlink (fun _ => rfl) (fun _ _ _ => (show _ < _ by decide)) hat kk
theorem gf_X10_readSegment {idx i : Nat} (hlink : Cond.fieldLink Y.1.cls idx RX10 "readSegment" "[I" ∈ TW) (hat : At Y pc (.getfield idx) 3 pc') (kk : AW K Y h Q pc' ls (vr 50 (0) :: st) N g) : AW K Y h Q pc ls (vr 40 i :: st) N g := r_get (k := 40) (j := 13) (c := 8) (C := RX10) (T := TX10) (n := 34) (v := vr 50 (0)) rfl rfl (by decide) kWX10 rfl hlink (fun _ => rfl) (fun _ _ _ => (show _ < _ by decide)) hat kk
theorem gf_X10_segment {idx i : Nat} (hlink : Cond.fieldLink Y.1.cls idx RX10 "segment" "[I" ∈ TW) (hat : At Y pc (.getfield idx) 3 pc') (kk : AW K Y h Q pc' ls (vr 51 (0) :: st) N g) : AW K Y h Q pc ls (vr 40 i :: st) N g := r_get (k := 40) (j := 14) (c := 8) (C := RX10) (T := TX10) (n := 34) (v := vr 51 (0)) rfl rfl (by decide) kWX10 rfl hlink (fun _ => rfl) (fun _ _ _ => (show _ < _ by decide)) hat kk
theorem gf_X10_readDeep {idx i : Nat} (hlink : Cond.fieldLink Y.1.cls idx RX10 "readDeep" "[I" ∈ TW) (hat : At Y pc (.getfield idx) 3 pc') (kk : AW K Y h Q pc' ls (vr 52 (0) :: st) N g) : AW K Y h Q pc ls (vr 40 i :: st) N g := r_get (k := 40) (j := 15) (c := 8) (C := RX10) (T := TX10) (n := 34) (v := vr 52 (0)) rfl rfl (by decide) kWX10 rfl hlink (fun _ => rfl) (fun _ _ _ => (show _ < _ by decide)) hat kk
theorem gf_X10_deep {idx i : Nat} (hlink : Cond.fieldLink Y.1.cls idx RX10 "deep" "[I" ∈ TW) (hat : At Y pc (.getfield idx) 3 pc') (kk : AW K Y h Q pc' ls (vr 53 (0) :: st) N g) : AW K Y h Q pc ls (vr 40 i :: st) N g := r_get (k := 40) (j := 16) (c := 8) (C := RX10) (T := TX10) (n := 34) (v := vr 53 (0)) rfl rfl (by decide) kWX10 rfl hlink (fun _ => rfl) (fun _ _ _ => (show _ < _ by decide)) hat kk
theorem gf_X10_readAccounts {idx i : Nat} (hlink : Cond.fieldLink Y.1.cls idx RX10 "readAccounts" "I" ∈ TW) (hat : At Y pc (.getfield idx) 3 pc') (kk : AW K Y h Q pc' ls (vi (N 40 i 17) :: st) N g) : AW K Y h Q pc ls (vr 40 i :: st) N g := r_get (k := 40) (j := 17) (c := 8) (C := RX10) (T := TX10) (n := 34) (v := vi (N 40 i 17)) rfl rfl (by decide) kWX10 rfl hlink (fun _ => rfl) (fun _ _ _ => trivial) hat kk
theorem pf_X10_readAccounts {idx i : Nat} {z : Int} (hlink : Cond.fieldLink Y.1.cls idx RX10 "readAccounts" "I" ∈ TW) (hat : At Y pc (.putfield idx) 3 pc') (kk : AW K Y h Q pc' ls st (upN N 40 i 17 z) g) : AW K Y h Q pc ls (vi z :: vr 40 i :: st) N g := r_put (k := 40) (j := 17) (c := 8) (C := RX10) (T := TX10) (n := 34) (ty0 := tyX10) (ty := .int) (v := vi z) (z := z) rfl rfl (by decide) kWX10 rfl hlink tyX10_ok nmX10 rfl (by decide +kernel) (fun _ => rfl) (fun _ => rfl) (fun _ => by show Value.int (Int32.ofInt (upN N 40 i 17 z 40 i 17)) = _; rw [upN_eq]; rfl) hat kk
theorem gf_X10_readBenefit {idx i : Nat} (hlink : Cond.fieldLink Y.1.cls idx RX10 "readBenefit" "I" ∈ TW) (hat : At Y pc (.getfield idx) 3 pc') (kk : AW K Y h Q pc' ls (vi (N 40 i 18) :: st) N g) : AW K Y h Q pc ls (vr 40 i :: st) N g := r_get (k := 40) (j := 18) (c := 8) (C := RX10) (T := TX10) (n := 34) (v := vi (N 40 i 18)) rfl rfl (by decide) kWX10 rfl hlink (fun _ => rfl) (fun _ _ _ => trivial) hat kk
theorem pf_X10_readBenefit {idx i : Nat} {z : Int} (hlink : Cond.fieldLink Y.1.cls idx RX10 "readBenefit" "I" ∈ TW) (hat : At Y pc (.putfield idx) 3 pc') (kk : AW K Y h Q pc' ls st (upN N 40 i 18 z) g) : AW K Y h Q pc ls (vi z :: vr 40 i :: st) N g := r_put (k := 40) (j := 18) (c := 8) (C := RX10) (T := TX10) (n := 34) (ty0 := tyX10) (ty := .int) (v := vi z) (z := z) rfl rfl (by decide) kWX10 rfl hlink tyX10_ok nmX10 rfl (by decide +kernel) (fun _ => rfl) (fun _ => rfl) (fun _ => by show Value.int (Int32.ofInt (upN N 40 i 18 z 40 i 18)) = _; rw [upN_eq]; rfl) hat kk
theorem gf_X10_accounts {idx i : Nat} (hlink : Cond.fieldLink Y.1.cls idx RX10 "accounts" "I" ∈ TW) (hat : At Y pc (.getfield idx) 3 pc') (kk : AW K Y h Q pc' ls (vi (N 40 i 19) :: st) N g) : AW K Y h Q pc ls (vr 40 i :: st) N g := r_get (k := 40) (j := 19) (c := 8) (C := RX10) (T := TX10) (n := 34) (v := vi (N 40 i 19)) rfl rfl (by decide) kWX10 rfl hlink (fun _ => rfl) (fun _ _ _ => trivial) hat kk
theorem pf_X10_accounts {idx i : Nat} {z : Int} (hlink : Cond.fieldLink Y.1.cls idx RX10 "accounts" "I" ∈ TW) (hat : At Y pc (.putfield idx) 3 pc') (kk : AW K Y h Q pc' ls st (upN N 40 i 19 z) g) : AW K Y h Q pc ls (vi z :: vr 40 i :: st) N g := r_put (k := 40) (j := 19) (c := 8) (C := RX10) (T := TX10) (n := 34) (ty0 := tyX10) (ty := .int) (v := vi z) (z := z) rfl rfl (by decide) kWX10 rfl hlink tyX10_ok nmX10 rfl (by decide +kernel) (fun _ => rfl) (fun _ => rfl) (fun _ => by show Value.int (Int32.ofInt (upN N 40 i 19 z 40 i 19)) = _; rw [upN_eq]; rfl) hat kk
theorem gf_X10_benefit {idx i : Nat} (hlink : Cond.fieldLink Y.1.cls idx RX10 "benefit" "I" ∈ TW) (hat : At Y pc (.getfield idx) 3 pc') (kk : AW K Y h Q pc' ls (vi (N 40 i 20) :: st) N g) : AW K Y h Q pc ls (vr 40 i :: st) N g := r_get (k := 40) (j := 20) (c := 8) (C := RX10) (T := TX10) (n := 34) (v := vi (N 40 i 20)) rfl rfl (by decide) kWX10 rfl hlink (fun _ => rfl) (fun _ _ _ => trivial) hat kk
theorem pf_X10_benefit {idx i : Nat} {z : Int} (hlink : Cond.fieldLink Y.1.cls idx RX10 "benefit" "I" ∈ TW) (hat : At Y pc (.putfield idx) 3 pc') (kk : AW K Y h Q pc' ls st (upN N 40 i 20 z) g) : AW K Y h Q pc ls (vi z :: vr 40 i :: st) N g := r_put (k := 40) (j := 20) (c := 8) (C := RX10) (T := TX10) (n := 34) (ty0 := tyX10) (ty := .int) (v := vi z) (z := z) rfl rfl (by decide) kWX10 rfl hlink tyX10_ok nmX10 rfl (by decide +kernel) (fun _ => rfl) (fun _ => rfl) (fun _ => by show Value.int (Int32.ofInt (upN N 40 i 20 z 40 i 20)) = _; rw [upN_eq]; rfl) hat kk
theorem gf_X10_hasBenefit {idx i : Nat} (hlink : Cond.fieldLink Y.1.cls idx RX10 "hasBenefit" "Z" ∈ TW) (hat : At Y pc (.getfield idx) 3 pc') (kk : AW K Y h Q pc' ls (vi (N 40 i 21) :: st) N g) : AW K Y h Q pc ls (vr 40 i :: st) N g := r_get (k := 40) (j := 21) (c := 8) (C := RX10) (T := TX10) (n := 34) (v := vi (N 40 i 21)) rfl rfl (by decide) kWX10 rfl hlink (fun _ => rfl) (fun _ _ _ => trivial) hat kk
theorem pf_X10_hasBenefit {idx i : Nat} {z : Int} (hz : z = 0 ∨ z = 1) (hlink : Cond.fieldLink Y.1.cls idx RX10 "hasBenefit" "Z" ∈ TW) (hat : At Y pc (.putfield idx) 3 pc') (kk : AW K Y h Q pc' ls st (upN N 40 i 21 z) g) : AW K Y h Q pc ls (vi z :: vr 40 i :: st) N g := r_put (k := 40) (j := 21) (c := 8) (C := RX10) (T := TX10) (n := 34) (ty0 := tyX10) (ty := .boolean) (v := vi z) (z := z) rfl rfl (by decide) kWX10 rfl hlink tyX10_ok nmX10 rfl (by decide +kernel) (fun _ => by rcases hz with rfl | rfl <;> rfl) (fun _ => by rcases hz with rfl | rfl <;> rfl) (fun _ => by show Value.int (Int32.ofInt (upN N 40 i 21 z 40 i 21)) = _; rw [upN_eq]; rfl) hat kk
theorem gf_X10_isDesk {idx i : Nat} (hlink : Cond.fieldLink Y.1.cls idx RX10 "isDesk" "Z" ∈ TW) (hat : At Y pc (.getfield idx) 3 pc') (kk : AW K Y h Q pc' ls (vi (N 40 i 22) :: st) N g) : AW K Y h Q pc ls (vr 40 i :: st) N g := r_get (k := 40) (j := 22) (c := 8) (C := RX10) (T := TX10) (n := 34) (v := vi (N 40 i 22)) rfl rfl (by decide) kWX10 rfl hlink (fun _ => rfl) (fun _ _ _ => trivial) hat kk
theorem pf_X10_isDesk {idx i : Nat} {z : Int} (hz : z = 0 ∨ z = 1) (hlink : Cond.fieldLink Y.1.cls idx RX10 "isDesk" "Z" ∈ TW) (hat : At Y pc (.putfield idx) 3 pc') (kk : AW K Y h Q pc' ls st (upN N 40 i 22 z) g) : AW K Y h Q pc ls (vi z :: vr 40 i :: st) N g := r_put (k := 40) (j := 22) (c := 8) (C := RX10) (T := TX10) (n := 34) (ty0 := tyX10) (ty := .boolean) (v := vi z) (z := z) rfl rfl (by decide) kWX10 rfl hlink tyX10_ok nmX10 rfl (by decide +kernel) (fun _ => by rcases hz with rfl | rfl <;> rfl) (fun _ => by rcases hz with rfl | rfl <;> rfl) (fun _ => by show Value.int (Int32.ofInt (upN N 40 i 22 z 40 i 22)) = _; rw [upN_eq]; rfl) hat kk
theorem gf_X10_refused {idx i : Nat} (hlink : Cond.fieldLink Y.1.cls idx RX10 "refused" "[I" ∈ TW) (hat : At Y pc (.getfield idx) 3 pc') (kk : AW K Y h Q pc' ls (vr 54 (0) :: st) N g) : AW K Y h Q pc ls (vr 40 i :: st) N g := r_get (k := 40) (j := 23) (c := 8) (C := RX10) (T := TX10) (n := 34) (v := vr 54 (0)) rfl rfl (by decide) kWX10 rfl hlink (fun _ => rfl) (fun _ _ _ => (show _ < _ by decide)) hat kk
theorem gf_X10_wage {idx i : Nat} (hlink : Cond.fieldLink Y.1.cls idx RX10 "wage" "[I" ∈ TW) (hat : At Y pc (.getfield idx) 3 pc') (kk : AW K Y h Q pc' ls (vr 55 (0) :: st) N g) : AW K Y h Q pc ls (vr 40 i :: st) N g := r_get (k := 40) (j := 24) (c := 8) (C := RX10) (T := TX10) (n := 34) (v := vr 55 (0)) rfl rfl (by decide) kWX10 rfl hlink (fun _ => rfl) (fun _ _ _ => (show _ < _ by decide)) hat kk
theorem gf_X10_months {idx i : Nat} (hlink : Cond.fieldLink Y.1.cls idx RX10 "months" "I" ∈ TW) (hat : At Y pc (.getfield idx) 3 pc') (kk : AW K Y h Q pc' ls (vi (N 40 i 25) :: st) N g) : AW K Y h Q pc ls (vr 40 i :: st) N g := r_get (k := 40) (j := 25) (c := 8) (C := RX10) (T := TX10) (n := 34) (v := vi (N 40 i 25)) rfl rfl (by decide) kWX10 rfl hlink (fun _ => rfl) (fun _ _ _ => trivial) hat kk
theorem pf_X10_months {idx i : Nat} {z : Int} (hlink : Cond.fieldLink Y.1.cls idx RX10 "months" "I" ∈ TW) (hat : At Y pc (.putfield idx) 3 pc') (kk : AW K Y h Q pc' ls st (upN N 40 i 25 z) g) : AW K Y h Q pc ls (vi z :: vr 40 i :: st) N g := r_put (k := 40) (j := 25) (c := 8) (C := RX10) (T := TX10) (n := 34) (ty0 := tyX10) (ty := .int) (v := vi z) (z := z) rfl rfl (by decide) kWX10 rfl hlink tyX10_ok nmX10 rfl (by decide +kernel) (fun _ => rfl) (fun _ => rfl) (fun _ => by show Value.int (Int32.ofInt (upN N 40 i 25 z 40 i 25)) = _; rw [upN_eq]; rfl) hat kk
theorem gf_X10_is {idx i : Nat} (hlink : Cond.fieldLink Y.1.cls idx RX10 "is" "[J" ∈ TW) (hat : At Y pc (.getfield idx) 3 pc') (kk : AW K Y h Q pc' ls (vr 56 (0) :: st) N g) : AW K Y h Q pc ls (vr 40 i :: st) N g := r_get (k := 40) (j := 26) (c := 8) (C := RX10) (T := TX10) (n := 34) (v := vr 56 (0)) rfl rfl (by decide) kWX10 rfl hlink (fun _ => rfl) (fun _ _ _ => (show _ < _ by decide)) hat kk
theorem gf_X10_held {idx i : Nat} (hlink : Cond.fieldLink Y.1.cls idx RX10 "held" "I" ∈ TW) (hat : At Y pc (.getfield idx) 3 pc') (kk : AW K Y h Q pc' ls (vi (N 40 i 27) :: st) N g) : AW K Y h Q pc ls (vr 40 i :: st) N g := r_get (k := 40) (j := 27) (c := 8) (C := RX10) (T := TX10) (n := 34) (v := vi (N 40 i 27)) rfl rfl (by decide) kWX10 rfl hlink (fun _ => rfl) (fun _ _ _ => trivial) hat kk
theorem pf_X10_held {idx i : Nat} {z : Int} (hlink : Cond.fieldLink Y.1.cls idx RX10 "held" "I" ∈ TW) (hat : At Y pc (.putfield idx) 3 pc') (kk : AW K Y h Q pc' ls st (upN N 40 i 27 z) g) : AW K Y h Q pc ls (vi z :: vr 40 i :: st) N g := r_put (k := 40) (j := 27) (c := 8) (C := RX10) (T := TX10) (n := 34) (ty0 := tyX10) (ty := .int) (v := vi z) (z := z) rfl rfl (by decide) kWX10 rfl hlink tyX10_ok nmX10 rfl (by decide +kernel) (fun _ => rfl) (fun _ => rfl) (fun _ => by show Value.int (Int32.ofInt (upN N 40 i 27 z 40 i 27)) = _; rw [upN_eq]; rfl) hat kk
theorem gf_X10_heldAt {idx i : Nat} (hlink : Cond.fieldLink Y.1.cls idx RX10 "heldAt" "J" ∈ TW) (hat : At Y pc (.getfield idx) 3 pc') (kk : AW K Y h Q pc' ls (vl (N 40 i 28) :: st) N g) : AW K Y h Q pc ls (vr 40 i :: st) N g := r_get (k := 40) (j := 28) (c := 8) (C := RX10) (T := TX10) (n := 34) (v := vl (N 40 i 28)) rfl rfl (by decide) kWX10 rfl hlink (fun _ => rfl) (fun _ _ _ => trivial) hat kk
theorem pf_X10_heldAt {idx i : Nat} {z : Int} (hlink : Cond.fieldLink Y.1.cls idx RX10 "heldAt" "J" ∈ TW) (hat : At Y pc (.putfield idx) 3 pc') (kk : AW K Y h Q pc' ls st (upN N 40 i 28 z) g) : AW K Y h Q pc ls (vl z :: vr 40 i :: st) N g := r_put (k := 40) (j := 28) (c := 8) (C := RX10) (T := TX10) (n := 34) (ty0 := tyX10) (ty := .long) (v := vl z) (z := z) rfl rfl (by decide) kWX10 rfl hlink tyX10_ok nmX10 rfl (by decide +kernel) (fun _ => rfl) (fun _ => rfl) (fun _ => by show Value.long (Int64.ofInt (upN N 40 i 28 z 40 i 28)) = _; rw [upN_eq]; rfl) hat kk
theorem gf_X10_line {idx i : Nat} (hlink : Cond.fieldLink Y.1.cls idx RX10 "line" "[J" ∈ TW) (hat : At Y pc (.getfield idx) 3 pc') (kk : AW K Y h Q pc' ls (vr 57 (0) :: st) N g) : AW K Y h Q pc ls (vr 40 i :: st) N g := r_get (k := 40) (j := 29) (c := 8) (C := RX10) (T := TX10) (n := 34) (v := vr 57 (0)) rfl rfl (by decide) kWX10 rfl hlink (fun _ => rfl) (fun _ _ _ => (show _ < _ by decide)) hat kk
theorem gf_X10_pieceFrom {idx i : Nat} (hlink : Cond.fieldLink Y.1.cls idx RX10 "pieceFrom" "[I" ∈ TW) (hat : At Y pc (.getfield idx) 3 pc') (kk : AW K Y h Q pc' ls (vr 58 (0) :: st) N g) : AW K Y h Q pc ls (vr 40 i :: st) N g := r_get (k := 40) (j := 30) (c := 8) (C := RX10) (T := TX10) (n := 34) (v := vr 58 (0)) rfl rfl (by decide) kWX10 rfl hlink (fun _ => rfl) (fun _ _ _ => (show _ < _ by decide)) hat kk
theorem gf_X10_pieces {idx i : Nat} (hlink : Cond.fieldLink Y.1.cls idx RX10 "pieces" "I" ∈ TW) (hat : At Y pc (.getfield idx) 3 pc') (kk : AW K Y h Q pc' ls (vi (N 40 i 31) :: st) N g) : AW K Y h Q pc ls (vr 40 i :: st) N g := r_get (k := 40) (j := 31) (c := 8) (C := RX10) (T := TX10) (n := 34) (v := vi (N 40 i 31)) rfl rfl (by decide) kWX10 rfl hlink (fun _ => rfl) (fun _ _ _ => trivial) hat kk
theorem pf_X10_pieces {idx i : Nat} {z : Int} (hlink : Cond.fieldLink Y.1.cls idx RX10 "pieces" "I" ∈ TW) (hat : At Y pc (.putfield idx) 3 pc') (kk : AW K Y h Q pc' ls st (upN N 40 i 31 z) g) : AW K Y h Q pc ls (vi z :: vr 40 i :: st) N g := r_put (k := 40) (j := 31) (c := 8) (C := RX10) (T := TX10) (n := 34) (ty0 := tyX10) (ty := .int) (v := vi z) (z := z) rfl rfl (by decide) kWX10 rfl hlink tyX10_ok nmX10 rfl (by decide +kernel) (fun _ => rfl) (fun _ => rfl) (fun _ => by show Value.int (Int32.ofInt (upN N 40 i 31 z 40 i 31)) = _; rw [upN_eq]; rfl) hat kk
theorem gf_X10_spelt {idx i : Nat} (hlink : Cond.fieldLink Y.1.cls idx RX10 "spelt" "[I" ∈ TW) (hat : At Y pc (.getfield idx) 3 pc') (kk : AW K Y h Q pc' ls (vr 59 (0) :: st) N g) : AW K Y h Q pc ls (vr 40 i :: st) N g := r_get (k := 40) (j := 32) (c := 8) (C := RX10) (T := TX10) (n := 34) (v := vr 59 (0)) rfl rfl (by decide) kWX10 rfl hlink (fun _ => rfl) (fun _ _ _ => (show _ < _ by decide)) hat kk
theorem gf_X10_speltMany {idx i : Nat} (hlink : Cond.fieldLink Y.1.cls idx RX10 "speltMany" "I" ∈ TW) (hat : At Y pc (.getfield idx) 3 pc') (kk : AW K Y h Q pc' ls (vi (N 40 i 33) :: st) N g) : AW K Y h Q pc ls (vr 40 i :: st) N g := r_get (k := 40) (j := 33) (c := 8) (C := RX10) (T := TX10) (n := 34) (v := vi (N 40 i 33)) rfl rfl (by decide) kWX10 rfl hlink (fun _ => rfl) (fun _ _ _ => trivial) hat kk
theorem pf_X10_speltMany {idx i : Nat} {z : Int} (hlink : Cond.fieldLink Y.1.cls idx RX10 "speltMany" "I" ∈ TW) (hat : At Y pc (.putfield idx) 3 pc') (kk : AW K Y h Q pc' ls st (upN N 40 i 33 z) g) : AW K Y h Q pc ls (vi z :: vr 40 i :: st) N g := r_put (k := 40) (j := 33) (c := 8) (C := RX10) (T := TX10) (n := 34) (ty0 := tyX10) (ty := .int) (v := vi z) (z := z) rfl rfl (by decide) kWX10 rfl hlink tyX10_ok nmX10 rfl (by decide +kernel) (fun _ => rfl) (fun _ => rfl) (fun _ => by show Value.int (Int32.ofInt (upN N 40 i 33 z 40 i 33)) = _; rw [upN_eq]; rfl) hat kk
theorem al_2 {i n : Nat} {j : Int} (hj : j = (n : Int)) (hn : n < 400) (hat : At Y pc .iaload 1 pc') (kk : AW K Y h Q pc' ls (vi (N 2 i n) :: st) N g) : AW K Y h Q pc ls (vi j :: vr 2 i :: st) N g := r_iald hj hn (Nat.lt_trans hn (show 400 < 2 ^ 31 by decide)) rfl hat kk
theorem as_2 {i n : Nat} {j v : Int} (hj : j = (n : Int)) (hn : n < 400) (hat : At Y pc .iastore 1 pc') (kk : AW K Y h Q pc' ls st (upN N 2 i n v) g) : AW K Y h Q pc ls (vi v :: vi j :: vr 2 i :: st) N g := r_iast hj hn (Nat.lt_trans hn (show 400 < 2 ^ 31 by decide)) rfl hat kk
theorem an_2 {i : Nat} (hat : At Y pc .arraylength 1 pc') (kk : AW K Y h Q pc' ls (vi ((400 : Nat) : Int) :: st) N g) : AW K Y h Q pc ls (vr 2 i :: st) N g := r_alen (c := 0) (Or.inl rfl) (Or.inl rfl) hat kk
theorem al_4 {i n : Nat} {j : Int} (hj : j = (n : Int)) (hn : n < 7) (hat : At Y pc .laload 1 pc') (kk : AW K Y h Q pc' ls (vl (N 4 i n) :: st) N g) : AW K Y h Q pc ls (vi j :: vr 4 i :: st) N g := r_lald hj hn (Nat.lt_trans hn (show 7 < 2 ^ 31 by decide)) rfl hat kk
theorem as_4 {i n : Nat} {j v : Int} (hj : j = (n : Int)) (hn : n < 7) (hat : At Y pc .lastore 1 pc') (kk : AW K Y h Q pc' ls st (upN N 4 i n v) g) : AW K Y h Q pc ls (vl v :: vi j :: vr 4 i :: st) N g := r_last hj hn (Nat.lt_trans hn (show 7 < 2 ^ 31 by decide)) rfl hat kk
theorem an_4 {i : Nat} (hat : At Y pc .arraylength 1 pc') (kk : AW K Y h Q pc' ls (vi ((7 : Nat) : Int) :: st) N g) : AW K Y h Q pc ls (vr 4 i :: st) N g := r_alen (c := 1) (Or.inr rfl) (Or.inr rfl) hat kk
theorem al_5 {i n : Nat} {j : Int} (hj : j = (n : Int)) (hn : n < 7) (hat : At Y pc .laload 1 pc') (kk : AW K Y h Q pc' ls (vl (N 5 i n) :: st) N g) : AW K Y h Q pc ls (vi j :: vr 5 i :: st) N g := r_lald hj hn (Nat.lt_trans hn (show 7 < 2 ^ 31 by decide)) rfl hat kk
theorem as_5 {i n : Nat} {j v : Int} (hj : j = (n : Int)) (hn : n < 7) (hat : At Y pc .lastore 1 pc') (kk : AW K Y h Q pc' ls st (upN N 5 i n v) g) : AW K Y h Q pc ls (vl v :: vi j :: vr 5 i :: st) N g := r_last hj hn (Nat.lt_trans hn (show 7 < 2 ^ 31 by decide)) rfl hat kk
theorem an_5 {i : Nat} (hat : At Y pc .arraylength 1 pc') (kk : AW K Y h Q pc' ls (vi ((7 : Nat) : Int) :: st) N g) : AW K Y h Q pc ls (vr 5 i :: st) N g := r_alen (c := 1) (Or.inr rfl) (Or.inr rfl) hat kk
theorem al_6 {i n : Nat} {j : Int} (hj : j = (n : Int)) (hn : n < 6) (hat : At Y pc .iaload 1 pc') (kk : AW K Y h Q pc' ls (vi (N 6 i n) :: st) N g) : AW K Y h Q pc ls (vi j :: vr 6 i :: st) N g := r_iald hj hn (Nat.lt_trans hn (show 6 < 2 ^ 31 by decide)) rfl hat kk
theorem as_6 {i n : Nat} {j v : Int} (hj : j = (n : Int)) (hn : n < 6) (hat : At Y pc .iastore 1 pc') (kk : AW K Y h Q pc' ls st (upN N 6 i n v) g) : AW K Y h Q pc ls (vi v :: vi j :: vr 6 i :: st) N g := r_iast hj hn (Nat.lt_trans hn (show 6 < 2 ^ 31 by decide)) rfl hat kk
theorem an_6 {i : Nat} (hat : At Y pc .arraylength 1 pc') (kk : AW K Y h Q pc' ls (vi ((6 : Nat) : Int) :: st) N g) : AW K Y h Q pc ls (vr 6 i :: st) N g := r_alen (c := 0) (Or.inl rfl) (Or.inl rfl) hat kk
theorem al_8 {i n : Nat} {j : Int} (hj : j = (n : Int)) (hn : n < 7) (hat : At Y pc .aaload 1 pc') (kk : AW K Y h Q pc' ls (vr 12 (n) :: st) N g) : AW K Y h Q pc ls (vi j :: vr 8 i :: st) N g := r_aald (c := 2) (ty := .object "PayPromise$Line") hj hn (Nat.lt_trans hn (show 7 < 2 ^ 31 by decide)) rfl rfl rfl rfl (fun q1 q2 => (show n < 8 from by have q1 : i < 1 := q1; have q2 : n < 7 := q2; omega)) hat kk
theorem al_9 {i n : Nat} {j : Int} (hj : j = (n : Int)) (hn : n < 6) (hat : At Y pc .aaload 1 pc') (kk : AW K Y h Q pc' ls (vr 10 (n) :: st) N g) : AW K Y h Q pc ls (vi j :: vr 9 i :: st) N g := r_aald (c := 3) (ty := .array .int) hj hn (Nat.lt_trans hn (show 6 < 2 ^ 31 by decide)) rfl rfl rfl rfl (fun q1 q2 => (show n < 6 from by have q1 : i < 1 := q1; have q2 : n < 6 := q2; omega)) hat kk
theorem al_10 {i n : Nat} {j : Int} (hj : j = (n : Int)) (hn : n < 6) (hat : At Y pc .iaload 1 pc') (kk : AW K Y h Q pc' ls (vi (N 10 i n) :: st) N g) : AW K Y h Q pc ls (vi j :: vr 10 i :: st) N g := r_iald hj hn (Nat.lt_trans hn (show 6 < 2 ^ 31 by decide)) rfl hat kk
theorem as_10 {i n : Nat} {j v : Int} (hj : j = (n : Int)) (hn : n < 6) (hat : At Y pc .iastore 1 pc') (kk : AW K Y h Q pc' ls st (upN N 10 i n v) g) : AW K Y h Q pc ls (vi v :: vi j :: vr 10 i :: st) N g := r_iast hj hn (Nat.lt_trans hn (show 6 < 2 ^ 31 by decide)) rfl hat kk
theorem an_10 {i : Nat} (hat : At Y pc .arraylength 1 pc') (kk : AW K Y h Q pc' ls (vi ((6 : Nat) : Int) :: st) N g) : AW K Y h Q pc ls (vr 10 i :: st) N g := r_alen (c := 0) (Or.inl rfl) (Or.inl rfl) hat kk
theorem al_11 {i n : Nat} {j : Int} (hj : j = (n : Int)) (hn : n < 7) (hat : At Y pc .laload 1 pc') (kk : AW K Y h Q pc' ls (vl (N 11 i n) :: st) N g) : AW K Y h Q pc ls (vi j :: vr 11 i :: st) N g := r_lald hj hn (Nat.lt_trans hn (show 7 < 2 ^ 31 by decide)) rfl hat kk
theorem as_11 {i n : Nat} {j v : Int} (hj : j = (n : Int)) (hn : n < 7) (hat : At Y pc .lastore 1 pc') (kk : AW K Y h Q pc' ls st (upN N 11 i n v) g) : AW K Y h Q pc ls (vl v :: vi j :: vr 11 i :: st) N g := r_last hj hn (Nat.lt_trans hn (show 7 < 2 ^ 31 by decide)) rfl hat kk
theorem an_11 {i : Nat} (hat : At Y pc .arraylength 1 pc') (kk : AW K Y h Q pc' ls (vi ((7 : Nat) : Int) :: st) N g) : AW K Y h Q pc ls (vr 11 i :: st) N g := r_alen (c := 1) (Or.inr rfl) (Or.inr rfl) hat kk
theorem al_13 {i n : Nat} {j : Int} (hj : j = (n : Int)) (hn : n < g.2.2 i) (hs : n < 2 ^ 31) (hat : At Y pc .iaload 1 pc') (kk : AW K Y h Q pc' ls (vi (N 13 i n) :: st) N g) : AW K Y h Q pc ls (vi j :: vr 13 i :: st) N g := r_iald hj hn hs rfl hat kk
theorem as_13 {i n : Nat} {j v : Int} (hj : j = (n : Int)) (hn : n < g.2.2 i) (hs : n < 2 ^ 31) (hat : At Y pc .iastore 1 pc') (kk : AW K Y h Q pc' ls st (upN N 13 i n v) g) : AW K Y h Q pc ls (vi v :: vi j :: vr 13 i :: st) N g := r_iast hj hn hs rfl hat kk
theorem an_13 {i : Nat} (hat : At Y pc .arraylength 1 pc') (kk : AW K Y h Q pc' ls (vi ((g.2.2 i : Nat) : Int) :: st) N g) : AW K Y h Q pc ls (vr 13 i :: st) N g := r_alen (c := 0) (Or.inl rfl) (Or.inl rfl) hat kk
theorem al_14 {i n : Nat} {j : Int} (hj : j = (n : Int)) (hn : n < g.2.2 i) (hs : n < 2 ^ 31) (hat : At Y pc .laload 1 pc') (kk : AW K Y h Q pc' ls (vl (N 14 i n) :: st) N g) : AW K Y h Q pc ls (vi j :: vr 14 i :: st) N g := r_lald hj hn hs rfl hat kk
theorem as_14 {i n : Nat} {j v : Int} (hj : j = (n : Int)) (hn : n < g.2.2 i) (hs : n < 2 ^ 31) (hat : At Y pc .lastore 1 pc') (kk : AW K Y h Q pc' ls st (upN N 14 i n v) g) : AW K Y h Q pc ls (vl v :: vi j :: vr 14 i :: st) N g := r_last hj hn hs rfl hat kk
theorem an_14 {i : Nat} (hat : At Y pc .arraylength 1 pc') (kk : AW K Y h Q pc' ls (vi ((g.2.2 i : Nat) : Int) :: st) N g) : AW K Y h Q pc ls (vr 14 i :: st) N g := r_alen (c := 1) (Or.inr rfl) (Or.inr rfl) hat kk
theorem al_15 {i n : Nat} {j : Int} (hj : j = (n : Int)) (hn : n < g.2.2 i) (hs : n < 2 ^ 31) (hat : At Y pc .laload 1 pc') (kk : AW K Y h Q pc' ls (vl (N 15 i n) :: st) N g) : AW K Y h Q pc ls (vi j :: vr 15 i :: st) N g := r_lald hj hn hs rfl hat kk
theorem as_15 {i n : Nat} {j v : Int} (hj : j = (n : Int)) (hn : n < g.2.2 i) (hs : n < 2 ^ 31) (hat : At Y pc .lastore 1 pc') (kk : AW K Y h Q pc' ls st (upN N 15 i n v) g) : AW K Y h Q pc ls (vl v :: vi j :: vr 15 i :: st) N g := r_last hj hn hs rfl hat kk
theorem an_15 {i : Nat} (hat : At Y pc .arraylength 1 pc') (kk : AW K Y h Q pc' ls (vi ((g.2.2 i : Nat) : Int) :: st) N g) : AW K Y h Q pc ls (vr 15 i :: st) N g := r_alen (c := 1) (Or.inr rfl) (Or.inr rfl) hat kk
theorem al_17 {i n : Nat} {j : Int} (hj : j = (n : Int)) (hn : n < 12) (hat : At Y pc .iaload 1 pc') (kk : AW K Y h Q pc' ls (vi (N 17 i n) :: st) N g) : AW K Y h Q pc ls (vi j :: vr 17 i :: st) N g := r_iald hj hn (Nat.lt_trans hn (show 12 < 2 ^ 31 by decide)) rfl hat kk
theorem as_17 {i n : Nat} {j v : Int} (hj : j = (n : Int)) (hn : n < 12) (hat : At Y pc .iastore 1 pc') (kk : AW K Y h Q pc' ls st (upN N 17 i n v) g) : AW K Y h Q pc ls (vi v :: vi j :: vr 17 i :: st) N g := r_iast hj hn (Nat.lt_trans hn (show 12 < 2 ^ 31 by decide)) rfl hat kk
theorem an_17 {i : Nat} (hat : At Y pc .arraylength 1 pc') (kk : AW K Y h Q pc' ls (vi ((12 : Nat) : Int) :: st) N g) : AW K Y h Q pc ls (vr 17 i :: st) N g := r_alen (c := 0) (Or.inl rfl) (Or.inl rfl) hat kk
theorem al_19 {i n : Nat} {j : Int} (hj : j = (n : Int)) (hn : n < 4) (hat : At Y pc .iaload 1 pc') (kk : AW K Y h Q pc' ls (vi (N 19 i n) :: st) N g) : AW K Y h Q pc ls (vi j :: vr 19 i :: st) N g := r_iald hj hn (Nat.lt_trans hn (show 4 < 2 ^ 31 by decide)) rfl hat kk
theorem as_19 {i n : Nat} {j v : Int} (hj : j = (n : Int)) (hn : n < 4) (hat : At Y pc .iastore 1 pc') (kk : AW K Y h Q pc' ls st (upN N 19 i n v) g) : AW K Y h Q pc ls (vi v :: vi j :: vr 19 i :: st) N g := r_iast hj hn (Nat.lt_trans hn (show 4 < 2 ^ 31 by decide)) rfl hat kk
theorem an_19 {i : Nat} (hat : At Y pc .arraylength 1 pc') (kk : AW K Y h Q pc' ls (vi ((4 : Nat) : Int) :: st) N g) : AW K Y h Q pc ls (vr 19 i :: st) N g := r_alen (c := 0) (Or.inl rfl) (Or.inl rfl) hat kk
theorem al_21 {i n : Nat} {j : Int} (hj : j = (n : Int)) (hn : n < 7) (hat : At Y pc .iaload 1 pc') (kk : AW K Y h Q pc' ls (vi (N 21 i n) :: st) N g) : AW K Y h Q pc ls (vi j :: vr 21 i :: st) N g := r_iald hj hn (Nat.lt_trans hn (show 7 < 2 ^ 31 by decide)) rfl hat kk
theorem as_21 {i n : Nat} {j v : Int} (hj : j = (n : Int)) (hn : n < 7) (hat : At Y pc .iastore 1 pc') (kk : AW K Y h Q pc' ls st (upN N 21 i n v) g) : AW K Y h Q pc ls (vi v :: vi j :: vr 21 i :: st) N g := r_iast hj hn (Nat.lt_trans hn (show 7 < 2 ^ 31 by decide)) rfl hat kk
theorem an_21 {i : Nat} (hat : At Y pc .arraylength 1 pc') (kk : AW K Y h Q pc' ls (vi ((7 : Nat) : Int) :: st) N g) : AW K Y h Q pc ls (vr 21 i :: st) N g := r_alen (c := 0) (Or.inl rfl) (Or.inl rfl) hat kk
theorem al_22 {i n : Nat} {j : Int} (hj : j = (n : Int)) (hn : n < 7) (hat : At Y pc .aaload 1 pc') (kk : AW K Y h Q pc' ls (vr 23 (7 * i + n) :: st) N g) : AW K Y h Q pc ls (vi j :: vr 22 i :: st) N g := r_aald (c := 3) (ty := .array .int) hj hn (Nat.lt_trans hn (show 7 < 2 ^ 31 by decide)) rfl rfl rfl rfl (fun q1 q2 => (show 7 * i + n < 14 from by have q1 : i < 2 := q1; have q2 : n < 7 := q2; omega)) hat kk
theorem al_23 {i n : Nat} {j : Int} (hj : j = (n : Int)) (hn : n < 6) (hat : At Y pc .iaload 1 pc') (kk : AW K Y h Q pc' ls (vi (N 23 i n) :: st) N g) : AW K Y h Q pc ls (vi j :: vr 23 i :: st) N g := r_iald hj hn (Nat.lt_trans hn (show 6 < 2 ^ 31 by decide)) rfl hat kk
theorem as_23 {i n : Nat} {j v : Int} (hj : j = (n : Int)) (hn : n < 6) (hat : At Y pc .iastore 1 pc') (kk : AW K Y h Q pc' ls st (upN N 23 i n v) g) : AW K Y h Q pc ls (vi v :: vi j :: vr 23 i :: st) N g := r_iast hj hn (Nat.lt_trans hn (show 6 < 2 ^ 31 by decide)) rfl hat kk
theorem an_23 {i : Nat} (hat : At Y pc .arraylength 1 pc') (kk : AW K Y h Q pc' ls (vi ((6 : Nat) : Int) :: st) N g) : AW K Y h Q pc ls (vr 23 i :: st) N g := r_alen (c := 0) (Or.inl rfl) (Or.inl rfl) hat kk
theorem al_24 {i n : Nat} {j : Int} (hj : j = (n : Int)) (hn : n < 7) (hat : At Y pc .aaload 1 pc') (kk : AW K Y h Q pc' ls (vr 25 (7 * i + n) :: st) N g) : AW K Y h Q pc ls (vi j :: vr 24 i :: st) N g := r_aald (c := 3) (ty := .array .int) hj hn (Nat.lt_trans hn (show 7 < 2 ^ 31 by decide)) rfl rfl rfl rfl (fun q1 q2 => (show 7 * i + n < 14 from by have q1 : i < 2 := q1; have q2 : n < 7 := q2; omega)) hat kk
theorem al_25 {i n : Nat} {j : Int} (hj : j = (n : Int)) (hn : n < 6) (hat : At Y pc .iaload 1 pc') (kk : AW K Y h Q pc' ls (vi (N 25 i n) :: st) N g) : AW K Y h Q pc ls (vi j :: vr 25 i :: st) N g := r_iald hj hn (Nat.lt_trans hn (show 6 < 2 ^ 31 by decide)) rfl hat kk
theorem as_25 {i n : Nat} {j v : Int} (hj : j = (n : Int)) (hn : n < 6) (hat : At Y pc .iastore 1 pc') (kk : AW K Y h Q pc' ls st (upN N 25 i n v) g) : AW K Y h Q pc ls (vi v :: vi j :: vr 25 i :: st) N g := r_iast hj hn (Nat.lt_trans hn (show 6 < 2 ^ 31 by decide)) rfl hat kk
theorem an_25 {i : Nat} (hat : At Y pc .arraylength 1 pc') (kk : AW K Y h Q pc' ls (vi ((6 : Nat) : Int) :: st) N g) : AW K Y h Q pc ls (vr 25 i :: st) N g := r_alen (c := 0) (Or.inl rfl) (Or.inl rfl) hat kk
theorem al_26 {i n : Nat} {j : Int} (hj : j = (n : Int)) (hn : n < 6) (hat : At Y pc .iaload 1 pc') (kk : AW K Y h Q pc' ls (vi (N 26 i n) :: st) N g) : AW K Y h Q pc ls (vi j :: vr 26 i :: st) N g := r_iald hj hn (Nat.lt_trans hn (show 6 < 2 ^ 31 by decide)) rfl hat kk
theorem as_26 {i n : Nat} {j v : Int} (hj : j = (n : Int)) (hn : n < 6) (hat : At Y pc .iastore 1 pc') (kk : AW K Y h Q pc' ls st (upN N 26 i n v) g) : AW K Y h Q pc ls (vi v :: vi j :: vr 26 i :: st) N g := r_iast hj hn (Nat.lt_trans hn (show 6 < 2 ^ 31 by decide)) rfl hat kk
theorem an_26 {i : Nat} (hat : At Y pc .arraylength 1 pc') (kk : AW K Y h Q pc' ls (vi ((6 : Nat) : Int) :: st) N g) : AW K Y h Q pc ls (vr 26 i :: st) N g := r_alen (c := 0) (Or.inl rfl) (Or.inl rfl) hat kk
theorem al_27 {i n : Nat} {j : Int} (hj : j = (n : Int)) (hn : n < 6) (hat : At Y pc .iaload 1 pc') (kk : AW K Y h Q pc' ls (vi (N 27 i n) :: st) N g) : AW K Y h Q pc ls (vi j :: vr 27 i :: st) N g := r_iald hj hn (Nat.lt_trans hn (show 6 < 2 ^ 31 by decide)) rfl hat kk
theorem as_27 {i n : Nat} {j v : Int} (hj : j = (n : Int)) (hn : n < 6) (hat : At Y pc .iastore 1 pc') (kk : AW K Y h Q pc' ls st (upN N 27 i n v) g) : AW K Y h Q pc ls (vi v :: vi j :: vr 27 i :: st) N g := r_iast hj hn (Nat.lt_trans hn (show 6 < 2 ^ 31 by decide)) rfl hat kk
theorem an_27 {i : Nat} (hat : At Y pc .arraylength 1 pc') (kk : AW K Y h Q pc' ls (vi ((6 : Nat) : Int) :: st) N g) : AW K Y h Q pc ls (vr 27 i :: st) N g := r_alen (c := 0) (Or.inl rfl) (Or.inl rfl) hat kk
theorem al_28 {i n : Nat} {j : Int} (hj : j = (n : Int)) (hn : n < 6) (hat : At Y pc .aaload 1 pc') (kk : AW K Y h Q pc' ls (vr 29 (6 * i + n) :: st) N g) : AW K Y h Q pc ls (vi j :: vr 28 i :: st) N g := r_aald (c := 3) (ty := .array .int) hj hn (Nat.lt_trans hn (show 6 < 2 ^ 31 by decide)) rfl rfl rfl rfl (fun q1 q2 => (show 6 * i + n < 12 from by have q1 : i < 2 := q1; have q2 : n < 6 := q2; omega)) hat kk
theorem al_29 {i n : Nat} {j : Int} (hj : j = (n : Int)) (hn : n < 6) (hat : At Y pc .iaload 1 pc') (kk : AW K Y h Q pc' ls (vi (N 29 i n) :: st) N g) : AW K Y h Q pc ls (vi j :: vr 29 i :: st) N g := r_iald hj hn (Nat.lt_trans hn (show 6 < 2 ^ 31 by decide)) rfl hat kk
theorem as_29 {i n : Nat} {j v : Int} (hj : j = (n : Int)) (hn : n < 6) (hat : At Y pc .iastore 1 pc') (kk : AW K Y h Q pc' ls st (upN N 29 i n v) g) : AW K Y h Q pc ls (vi v :: vi j :: vr 29 i :: st) N g := r_iast hj hn (Nat.lt_trans hn (show 6 < 2 ^ 31 by decide)) rfl hat kk
theorem an_29 {i : Nat} (hat : At Y pc .arraylength 1 pc') (kk : AW K Y h Q pc' ls (vi ((6 : Nat) : Int) :: st) N g) : AW K Y h Q pc ls (vr 29 i :: st) N g := r_alen (c := 0) (Or.inl rfl) (Or.inl rfl) hat kk
theorem al_30 {i n : Nat} {j : Int} (hj : j = (n : Int)) (hn : n < 6) (hat : At Y pc .aaload 1 pc') (kk : AW K Y h Q pc' ls (vr 31 (6 * i + n) :: st) N g) : AW K Y h Q pc ls (vi j :: vr 30 i :: st) N g := r_aald (c := 3) (ty := .array .int) hj hn (Nat.lt_trans hn (show 6 < 2 ^ 31 by decide)) rfl rfl rfl rfl (fun q1 q2 => (show 6 * i + n < 12 from by have q1 : i < 2 := q1; have q2 : n < 6 := q2; omega)) hat kk
theorem al_31 {i n : Nat} {j : Int} (hj : j = (n : Int)) (hn : n < 6) (hat : At Y pc .iaload 1 pc') (kk : AW K Y h Q pc' ls (vi (N 31 i n) :: st) N g) : AW K Y h Q pc ls (vi j :: vr 31 i :: st) N g := r_iald hj hn (Nat.lt_trans hn (show 6 < 2 ^ 31 by decide)) rfl hat kk
theorem as_31 {i n : Nat} {j v : Int} (hj : j = (n : Int)) (hn : n < 6) (hat : At Y pc .iastore 1 pc') (kk : AW K Y h Q pc' ls st (upN N 31 i n v) g) : AW K Y h Q pc ls (vi v :: vi j :: vr 31 i :: st) N g := r_iast hj hn (Nat.lt_trans hn (show 6 < 2 ^ 31 by decide)) rfl hat kk
theorem an_31 {i : Nat} (hat : At Y pc .arraylength 1 pc') (kk : AW K Y h Q pc' ls (vi ((6 : Nat) : Int) :: st) N g) : AW K Y h Q pc ls (vr 31 i :: st) N g := r_alen (c := 0) (Or.inl rfl) (Or.inl rfl) hat kk
theorem al_32 {i n : Nat} {j : Int} (hj : j = (n : Int)) (hn : n < 6) (hat : At Y pc .aaload 1 pc') (kk : AW K Y h Q pc' ls (vr 33 (6 * i + n) :: st) N g) : AW K Y h Q pc ls (vi j :: vr 32 i :: st) N g := r_aald (c := 3) (ty := .array .int) hj hn (Nat.lt_trans hn (show 6 < 2 ^ 31 by decide)) rfl rfl rfl rfl (fun q1 q2 => (show 6 * i + n < 12 from by have q1 : i < 2 := q1; have q2 : n < 6 := q2; omega)) hat kk
theorem al_33 {i n : Nat} {j : Int} (hj : j = (n : Int)) (hn : n < 6) (hat : At Y pc .iaload 1 pc') (kk : AW K Y h Q pc' ls (vi (N 33 i n) :: st) N g) : AW K Y h Q pc ls (vi j :: vr 33 i :: st) N g := r_iald hj hn (Nat.lt_trans hn (show 6 < 2 ^ 31 by decide)) rfl hat kk
theorem as_33 {i n : Nat} {j v : Int} (hj : j = (n : Int)) (hn : n < 6) (hat : At Y pc .iastore 1 pc') (kk : AW K Y h Q pc' ls st (upN N 33 i n v) g) : AW K Y h Q pc ls (vi v :: vi j :: vr 33 i :: st) N g := r_iast hj hn (Nat.lt_trans hn (show 6 < 2 ^ 31 by decide)) rfl hat kk
theorem an_33 {i : Nat} (hat : At Y pc .arraylength 1 pc') (kk : AW K Y h Q pc' ls (vi ((6 : Nat) : Int) :: st) N g) : AW K Y h Q pc ls (vr 33 i :: st) N g := r_alen (c := 0) (Or.inl rfl) (Or.inl rfl) hat kk
theorem al_34 {i n : Nat} {j : Int} (hj : j = (n : Int)) (hn : n < 6) (hat : At Y pc .aaload 1 pc') (kk : AW K Y h Q pc' ls (vr 35 (6 * i + n) :: st) N g) : AW K Y h Q pc ls (vi j :: vr 34 i :: st) N g := r_aald (c := 4) (ty := .array .long) hj hn (Nat.lt_trans hn (show 6 < 2 ^ 31 by decide)) rfl rfl rfl rfl (fun q1 q2 => (show 6 * i + n < 12 from by have q1 : i < 2 := q1; have q2 : n < 6 := q2; omega)) hat kk
theorem al_35 {i n : Nat} {j : Int} (hj : j = (n : Int)) (hn : n < 6) (hat : At Y pc .laload 1 pc') (kk : AW K Y h Q pc' ls (vl (N 35 i n) :: st) N g) : AW K Y h Q pc ls (vi j :: vr 35 i :: st) N g := r_lald hj hn (Nat.lt_trans hn (show 6 < 2 ^ 31 by decide)) rfl hat kk
theorem as_35 {i n : Nat} {j v : Int} (hj : j = (n : Int)) (hn : n < 6) (hat : At Y pc .lastore 1 pc') (kk : AW K Y h Q pc' ls st (upN N 35 i n v) g) : AW K Y h Q pc ls (vl v :: vi j :: vr 35 i :: st) N g := r_last hj hn (Nat.lt_trans hn (show 6 < 2 ^ 31 by decide)) rfl hat kk
theorem an_35 {i : Nat} (hat : At Y pc .arraylength 1 pc') (kk : AW K Y h Q pc' ls (vi ((6 : Nat) : Int) :: st) N g) : AW K Y h Q pc ls (vr 35 i :: st) N g := r_alen (c := 1) (Or.inr rfl) (Or.inr rfl) hat kk
theorem al_41 {i n : Nat} {j : Int} (hj : j = (n : Int)) (hn : n < 400) (hat : At Y pc .iaload 1 pc') (kk : AW K Y h Q pc' ls (vi (N 41 i n) :: st) N g) : AW K Y h Q pc ls (vi j :: vr 41 i :: st) N g := r_iald hj hn (Nat.lt_trans hn (show 400 < 2 ^ 31 by decide)) rfl hat kk
theorem as_41 {i n : Nat} {j v : Int} (hj : j = (n : Int)) (hn : n < 400) (hat : At Y pc .iastore 1 pc') (kk : AW K Y h Q pc' ls st (upN N 41 i n v) g) : AW K Y h Q pc ls (vi v :: vi j :: vr 41 i :: st) N g := r_iast hj hn (Nat.lt_trans hn (show 400 < 2 ^ 31 by decide)) rfl hat kk
theorem an_41 {i : Nat} (hat : At Y pc .arraylength 1 pc') (kk : AW K Y h Q pc' ls (vi ((400 : Nat) : Int) :: st) N g) : AW K Y h Q pc ls (vr 41 i :: st) N g := r_alen (c := 0) (Or.inl rfl) (Or.inl rfl) hat kk
theorem al_42 {i n : Nat} {j : Int} (hj : j = (n : Int)) (hn : n < 7) (hat : At Y pc .iaload 1 pc') (kk : AW K Y h Q pc' ls (vi (N 42 i n) :: st) N g) : AW K Y h Q pc ls (vi j :: vr 42 i :: st) N g := r_iald hj hn (Nat.lt_trans hn (show 7 < 2 ^ 31 by decide)) rfl hat kk
theorem as_42 {i n : Nat} {j v : Int} (hj : j = (n : Int)) (hn : n < 7) (hat : At Y pc .iastore 1 pc') (kk : AW K Y h Q pc' ls st (upN N 42 i n v) g) : AW K Y h Q pc ls (vi v :: vi j :: vr 42 i :: st) N g := r_iast hj hn (Nat.lt_trans hn (show 7 < 2 ^ 31 by decide)) rfl hat kk
theorem an_42 {i : Nat} (hat : At Y pc .arraylength 1 pc') (kk : AW K Y h Q pc' ls (vi ((7 : Nat) : Int) :: st) N g) : AW K Y h Q pc ls (vr 42 i :: st) N g := r_alen (c := 0) (Or.inl rfl) (Or.inl rfl) hat kk
theorem al_43 {i n : Nat} {j : Int} (hj : j = (n : Int)) (hn : n < 7) (hat : At Y pc .iaload 1 pc') (kk : AW K Y h Q pc' ls (vi (N 43 i n) :: st) N g) : AW K Y h Q pc ls (vi j :: vr 43 i :: st) N g := r_iald hj hn (Nat.lt_trans hn (show 7 < 2 ^ 31 by decide)) rfl hat kk
theorem as_43 {i n : Nat} {j v : Int} (hj : j = (n : Int)) (hn : n < 7) (hat : At Y pc .iastore 1 pc') (kk : AW K Y h Q pc' ls st (upN N 43 i n v) g) : AW K Y h Q pc ls (vi v :: vi j :: vr 43 i :: st) N g := r_iast hj hn (Nat.lt_trans hn (show 7 < 2 ^ 31 by decide)) rfl hat kk
theorem an_43 {i : Nat} (hat : At Y pc .arraylength 1 pc') (kk : AW K Y h Q pc' ls (vi ((7 : Nat) : Int) :: st) N g) : AW K Y h Q pc ls (vr 43 i :: st) N g := r_alen (c := 0) (Or.inl rfl) (Or.inl rfl) hat kk
theorem al_44 {i n : Nat} {j : Int} (hj : j = (n : Int)) (hn : n < 42) (hat : At Y pc .iaload 1 pc') (kk : AW K Y h Q pc' ls (vi (N 44 i n) :: st) N g) : AW K Y h Q pc ls (vi j :: vr 44 i :: st) N g := r_iald hj hn (Nat.lt_trans hn (show 42 < 2 ^ 31 by decide)) rfl hat kk
theorem as_44 {i n : Nat} {j v : Int} (hj : j = (n : Int)) (hn : n < 42) (hat : At Y pc .iastore 1 pc') (kk : AW K Y h Q pc' ls st (upN N 44 i n v) g) : AW K Y h Q pc ls (vi v :: vi j :: vr 44 i :: st) N g := r_iast hj hn (Nat.lt_trans hn (show 42 < 2 ^ 31 by decide)) rfl hat kk
theorem an_44 {i : Nat} (hat : At Y pc .arraylength 1 pc') (kk : AW K Y h Q pc' ls (vi ((42 : Nat) : Int) :: st) N g) : AW K Y h Q pc ls (vr 44 i :: st) N g := r_alen (c := 0) (Or.inl rfl) (Or.inl rfl) hat kk
theorem al_45 {i n : Nat} {j : Int} (hj : j = (n : Int)) (hn : n < 42) (hat : At Y pc .iaload 1 pc') (kk : AW K Y h Q pc' ls (vi (N 45 i n) :: st) N g) : AW K Y h Q pc ls (vi j :: vr 45 i :: st) N g := r_iald hj hn (Nat.lt_trans hn (show 42 < 2 ^ 31 by decide)) rfl hat kk
theorem as_45 {i n : Nat} {j v : Int} (hj : j = (n : Int)) (hn : n < 42) (hat : At Y pc .iastore 1 pc') (kk : AW K Y h Q pc' ls st (upN N 45 i n v) g) : AW K Y h Q pc ls (vi v :: vi j :: vr 45 i :: st) N g := r_iast hj hn (Nat.lt_trans hn (show 42 < 2 ^ 31 by decide)) rfl hat kk
theorem an_45 {i : Nat} (hat : At Y pc .arraylength 1 pc') (kk : AW K Y h Q pc' ls (vi ((42 : Nat) : Int) :: st) N g) : AW K Y h Q pc ls (vr 45 i :: st) N g := r_alen (c := 0) (Or.inl rfl) (Or.inl rfl) hat kk
theorem al_46 {i n : Nat} {j : Int} (hj : j = (n : Int)) (hn : n < 42) (hat : At Y pc .iaload 1 pc') (kk : AW K Y h Q pc' ls (vi (N 46 i n) :: st) N g) : AW K Y h Q pc ls (vi j :: vr 46 i :: st) N g := r_iald hj hn (Nat.lt_trans hn (show 42 < 2 ^ 31 by decide)) rfl hat kk
theorem as_46 {i n : Nat} {j v : Int} (hj : j = (n : Int)) (hn : n < 42) (hat : At Y pc .iastore 1 pc') (kk : AW K Y h Q pc' ls st (upN N 46 i n v) g) : AW K Y h Q pc ls (vi v :: vi j :: vr 46 i :: st) N g := r_iast hj hn (Nat.lt_trans hn (show 42 < 2 ^ 31 by decide)) rfl hat kk
theorem an_46 {i : Nat} (hat : At Y pc .arraylength 1 pc') (kk : AW K Y h Q pc' ls (vi ((42 : Nat) : Int) :: st) N g) : AW K Y h Q pc ls (vr 46 i :: st) N g := r_alen (c := 0) (Or.inl rfl) (Or.inl rfl) hat kk
theorem al_47 {i n : Nat} {j : Int} (hj : j = (n : Int)) (hn : n < 42) (hat : At Y pc .iaload 1 pc') (kk : AW K Y h Q pc' ls (vi (N 47 i n) :: st) N g) : AW K Y h Q pc ls (vi j :: vr 47 i :: st) N g := r_iald hj hn (Nat.lt_trans hn (show 42 < 2 ^ 31 by decide)) rfl hat kk
theorem as_47 {i n : Nat} {j v : Int} (hj : j = (n : Int)) (hn : n < 42) (hat : At Y pc .iastore 1 pc') (kk : AW K Y h Q pc' ls st (upN N 47 i n v) g) : AW K Y h Q pc ls (vi v :: vi j :: vr 47 i :: st) N g := r_iast hj hn (Nat.lt_trans hn (show 42 < 2 ^ 31 by decide)) rfl hat kk
theorem an_47 {i : Nat} (hat : At Y pc .arraylength 1 pc') (kk : AW K Y h Q pc' ls (vi ((42 : Nat) : Int) :: st) N g) : AW K Y h Q pc ls (vr 47 i :: st) N g := r_alen (c := 0) (Or.inl rfl) (Or.inl rfl) hat kk
theorem al_48 {i n : Nat} {j : Int} (hj : j = (n : Int)) (hn : n < 6) (hat : At Y pc .iaload 1 pc') (kk : AW K Y h Q pc' ls (vi (N 48 i n) :: st) N g) : AW K Y h Q pc ls (vi j :: vr 48 i :: st) N g := r_iald hj hn (Nat.lt_trans hn (show 6 < 2 ^ 31 by decide)) rfl hat kk
theorem as_48 {i n : Nat} {j v : Int} (hj : j = (n : Int)) (hn : n < 6) (hat : At Y pc .iastore 1 pc') (kk : AW K Y h Q pc' ls st (upN N 48 i n v) g) : AW K Y h Q pc ls (vi v :: vi j :: vr 48 i :: st) N g := r_iast hj hn (Nat.lt_trans hn (show 6 < 2 ^ 31 by decide)) rfl hat kk
theorem an_48 {i : Nat} (hat : At Y pc .arraylength 1 pc') (kk : AW K Y h Q pc' ls (vi ((6 : Nat) : Int) :: st) N g) : AW K Y h Q pc ls (vr 48 i :: st) N g := r_alen (c := 0) (Or.inl rfl) (Or.inl rfl) hat kk
theorem al_49 {i n : Nat} {j : Int} (hj : j = (n : Int)) (hn : n < 6) (hat : At Y pc .iaload 1 pc') (kk : AW K Y h Q pc' ls (vi (N 49 i n) :: st) N g) : AW K Y h Q pc ls (vi j :: vr 49 i :: st) N g := r_iald hj hn (Nat.lt_trans hn (show 6 < 2 ^ 31 by decide)) rfl hat kk
theorem as_49 {i n : Nat} {j v : Int} (hj : j = (n : Int)) (hn : n < 6) (hat : At Y pc .iastore 1 pc') (kk : AW K Y h Q pc' ls st (upN N 49 i n v) g) : AW K Y h Q pc ls (vi v :: vi j :: vr 49 i :: st) N g := r_iast hj hn (Nat.lt_trans hn (show 6 < 2 ^ 31 by decide)) rfl hat kk
theorem an_49 {i : Nat} (hat : At Y pc .arraylength 1 pc') (kk : AW K Y h Q pc' ls (vi ((6 : Nat) : Int) :: st) N g) : AW K Y h Q pc ls (vr 49 i :: st) N g := r_alen (c := 0) (Or.inl rfl) (Or.inl rfl) hat kk
theorem al_50 {i n : Nat} {j : Int} (hj : j = (n : Int)) (hn : n < 108) (hat : At Y pc .iaload 1 pc') (kk : AW K Y h Q pc' ls (vi (N 50 i n) :: st) N g) : AW K Y h Q pc ls (vi j :: vr 50 i :: st) N g := r_iald hj hn (Nat.lt_trans hn (show 108 < 2 ^ 31 by decide)) rfl hat kk
theorem as_50 {i n : Nat} {j v : Int} (hj : j = (n : Int)) (hn : n < 108) (hat : At Y pc .iastore 1 pc') (kk : AW K Y h Q pc' ls st (upN N 50 i n v) g) : AW K Y h Q pc ls (vi v :: vi j :: vr 50 i :: st) N g := r_iast hj hn (Nat.lt_trans hn (show 108 < 2 ^ 31 by decide)) rfl hat kk
theorem an_50 {i : Nat} (hat : At Y pc .arraylength 1 pc') (kk : AW K Y h Q pc' ls (vi ((108 : Nat) : Int) :: st) N g) : AW K Y h Q pc ls (vr 50 i :: st) N g := r_alen (c := 0) (Or.inl rfl) (Or.inl rfl) hat kk
theorem al_51 {i n : Nat} {j : Int} (hj : j = (n : Int)) (hn : n < 108) (hat : At Y pc .iaload 1 pc') (kk : AW K Y h Q pc' ls (vi (N 51 i n) :: st) N g) : AW K Y h Q pc ls (vi j :: vr 51 i :: st) N g := r_iald hj hn (Nat.lt_trans hn (show 108 < 2 ^ 31 by decide)) rfl hat kk
theorem as_51 {i n : Nat} {j v : Int} (hj : j = (n : Int)) (hn : n < 108) (hat : At Y pc .iastore 1 pc') (kk : AW K Y h Q pc' ls st (upN N 51 i n v) g) : AW K Y h Q pc ls (vi v :: vi j :: vr 51 i :: st) N g := r_iast hj hn (Nat.lt_trans hn (show 108 < 2 ^ 31 by decide)) rfl hat kk
theorem an_51 {i : Nat} (hat : At Y pc .arraylength 1 pc') (kk : AW K Y h Q pc' ls (vi ((108 : Nat) : Int) :: st) N g) : AW K Y h Q pc ls (vr 51 i :: st) N g := r_alen (c := 0) (Or.inl rfl) (Or.inl rfl) hat kk
theorem al_52 {i n : Nat} {j : Int} (hj : j = (n : Int)) (hn : n < 6) (hat : At Y pc .iaload 1 pc') (kk : AW K Y h Q pc' ls (vi (N 52 i n) :: st) N g) : AW K Y h Q pc ls (vi j :: vr 52 i :: st) N g := r_iald hj hn (Nat.lt_trans hn (show 6 < 2 ^ 31 by decide)) rfl hat kk
theorem as_52 {i n : Nat} {j v : Int} (hj : j = (n : Int)) (hn : n < 6) (hat : At Y pc .iastore 1 pc') (kk : AW K Y h Q pc' ls st (upN N 52 i n v) g) : AW K Y h Q pc ls (vi v :: vi j :: vr 52 i :: st) N g := r_iast hj hn (Nat.lt_trans hn (show 6 < 2 ^ 31 by decide)) rfl hat kk
theorem an_52 {i : Nat} (hat : At Y pc .arraylength 1 pc') (kk : AW K Y h Q pc' ls (vi ((6 : Nat) : Int) :: st) N g) : AW K Y h Q pc ls (vr 52 i :: st) N g := r_alen (c := 0) (Or.inl rfl) (Or.inl rfl) hat kk
theorem al_53 {i n : Nat} {j : Int} (hj : j = (n : Int)) (hn : n < 6) (hat : At Y pc .iaload 1 pc') (kk : AW K Y h Q pc' ls (vi (N 53 i n) :: st) N g) : AW K Y h Q pc ls (vi j :: vr 53 i :: st) N g := r_iald hj hn (Nat.lt_trans hn (show 6 < 2 ^ 31 by decide)) rfl hat kk
theorem as_53 {i n : Nat} {j v : Int} (hj : j = (n : Int)) (hn : n < 6) (hat : At Y pc .iastore 1 pc') (kk : AW K Y h Q pc' ls st (upN N 53 i n v) g) : AW K Y h Q pc ls (vi v :: vi j :: vr 53 i :: st) N g := r_iast hj hn (Nat.lt_trans hn (show 6 < 2 ^ 31 by decide)) rfl hat kk
theorem an_53 {i : Nat} (hat : At Y pc .arraylength 1 pc') (kk : AW K Y h Q pc' ls (vi ((6 : Nat) : Int) :: st) N g) : AW K Y h Q pc ls (vr 53 i :: st) N g := r_alen (c := 0) (Or.inl rfl) (Or.inl rfl) hat kk
theorem al_54 {i n : Nat} {j : Int} (hj : j = (n : Int)) (hn : n < 4) (hat : At Y pc .iaload 1 pc') (kk : AW K Y h Q pc' ls (vi (N 54 i n) :: st) N g) : AW K Y h Q pc ls (vi j :: vr 54 i :: st) N g := r_iald hj hn (Nat.lt_trans hn (show 4 < 2 ^ 31 by decide)) rfl hat kk
theorem as_54 {i n : Nat} {j v : Int} (hj : j = (n : Int)) (hn : n < 4) (hat : At Y pc .iastore 1 pc') (kk : AW K Y h Q pc' ls st (upN N 54 i n v) g) : AW K Y h Q pc ls (vi v :: vi j :: vr 54 i :: st) N g := r_iast hj hn (Nat.lt_trans hn (show 4 < 2 ^ 31 by decide)) rfl hat kk
theorem an_54 {i : Nat} (hat : At Y pc .arraylength 1 pc') (kk : AW K Y h Q pc' ls (vi ((4 : Nat) : Int) :: st) N g) : AW K Y h Q pc ls (vr 54 i :: st) N g := r_alen (c := 0) (Or.inl rfl) (Or.inl rfl) hat kk
theorem al_55 {i n : Nat} {j : Int} (hj : j = (n : Int)) (hn : n < 12) (hat : At Y pc .iaload 1 pc') (kk : AW K Y h Q pc' ls (vi (N 55 i n) :: st) N g) : AW K Y h Q pc ls (vi j :: vr 55 i :: st) N g := r_iald hj hn (Nat.lt_trans hn (show 12 < 2 ^ 31 by decide)) rfl hat kk
theorem as_55 {i n : Nat} {j v : Int} (hj : j = (n : Int)) (hn : n < 12) (hat : At Y pc .iastore 1 pc') (kk : AW K Y h Q pc' ls st (upN N 55 i n v) g) : AW K Y h Q pc ls (vi v :: vi j :: vr 55 i :: st) N g := r_iast hj hn (Nat.lt_trans hn (show 12 < 2 ^ 31 by decide)) rfl hat kk
theorem an_55 {i : Nat} (hat : At Y pc .arraylength 1 pc') (kk : AW K Y h Q pc' ls (vi ((12 : Nat) : Int) :: st) N g) : AW K Y h Q pc ls (vr 55 i :: st) N g := r_alen (c := 0) (Or.inl rfl) (Or.inl rfl) hat kk
theorem al_56 {i n : Nat} {j : Int} (hj : j = (n : Int)) (hn : n < 6) (hat : At Y pc .laload 1 pc') (kk : AW K Y h Q pc' ls (vl (N 56 i n) :: st) N g) : AW K Y h Q pc ls (vi j :: vr 56 i :: st) N g := r_lald hj hn (Nat.lt_trans hn (show 6 < 2 ^ 31 by decide)) rfl hat kk
theorem as_56 {i n : Nat} {j v : Int} (hj : j = (n : Int)) (hn : n < 6) (hat : At Y pc .lastore 1 pc') (kk : AW K Y h Q pc' ls st (upN N 56 i n v) g) : AW K Y h Q pc ls (vl v :: vi j :: vr 56 i :: st) N g := r_last hj hn (Nat.lt_trans hn (show 6 < 2 ^ 31 by decide)) rfl hat kk
theorem an_56 {i : Nat} (hat : At Y pc .arraylength 1 pc') (kk : AW K Y h Q pc' ls (vi ((6 : Nat) : Int) :: st) N g) : AW K Y h Q pc ls (vr 56 i :: st) N g := r_alen (c := 1) (Or.inr rfl) (Or.inr rfl) hat kk
theorem al_57 {i n : Nat} {j : Int} (hj : j = (n : Int)) (hn : n < 10000) (hat : At Y pc .laload 1 pc') (kk : AW K Y h Q pc' ls (vl (N 57 i n) :: st) N g) : AW K Y h Q pc ls (vi j :: vr 57 i :: st) N g := r_lald hj hn (Nat.lt_trans hn (show 10000 < 2 ^ 31 by decide)) rfl hat kk
theorem as_57 {i n : Nat} {j v : Int} (hj : j = (n : Int)) (hn : n < 10000) (hat : At Y pc .lastore 1 pc') (kk : AW K Y h Q pc' ls st (upN N 57 i n v) g) : AW K Y h Q pc ls (vl v :: vi j :: vr 57 i :: st) N g := r_last hj hn (Nat.lt_trans hn (show 10000 < 2 ^ 31 by decide)) rfl hat kk
theorem an_57 {i : Nat} (hat : At Y pc .arraylength 1 pc') (kk : AW K Y h Q pc' ls (vi ((10000 : Nat) : Int) :: st) N g) : AW K Y h Q pc ls (vr 57 i :: st) N g := r_alen (c := 1) (Or.inr rfl) (Or.inr rfl) hat kk
theorem al_58 {i n : Nat} {j : Int} (hj : j = (n : Int)) (hn : n < 10000) (hat : At Y pc .iaload 1 pc') (kk : AW K Y h Q pc' ls (vi (N 58 i n) :: st) N g) : AW K Y h Q pc ls (vi j :: vr 58 i :: st) N g := r_iald hj hn (Nat.lt_trans hn (show 10000 < 2 ^ 31 by decide)) rfl hat kk
theorem as_58 {i n : Nat} {j v : Int} (hj : j = (n : Int)) (hn : n < 10000) (hat : At Y pc .iastore 1 pc') (kk : AW K Y h Q pc' ls st (upN N 58 i n v) g) : AW K Y h Q pc ls (vi v :: vi j :: vr 58 i :: st) N g := r_iast hj hn (Nat.lt_trans hn (show 10000 < 2 ^ 31 by decide)) rfl hat kk
theorem an_58 {i : Nat} (hat : At Y pc .arraylength 1 pc') (kk : AW K Y h Q pc' ls (vi ((10000 : Nat) : Int) :: st) N g) : AW K Y h Q pc ls (vr 58 i :: st) N g := r_alen (c := 0) (Or.inl rfl) (Or.inl rfl) hat kk
theorem al_59 {i n : Nat} {j : Int} (hj : j = (n : Int)) (hn : n < 160) (hat : At Y pc .iaload 1 pc') (kk : AW K Y h Q pc' ls (vi (N 59 i n) :: st) N g) : AW K Y h Q pc ls (vi j :: vr 59 i :: st) N g := r_iald hj hn (Nat.lt_trans hn (show 160 < 2 ^ 31 by decide)) rfl hat kk
theorem as_59 {i n : Nat} {j v : Int} (hj : j = (n : Int)) (hn : n < 160) (hat : At Y pc .iastore 1 pc') (kk : AW K Y h Q pc' ls st (upN N 59 i n v) g) : AW K Y h Q pc ls (vi v :: vi j :: vr 59 i :: st) N g := r_iast hj hn (Nat.lt_trans hn (show 160 < 2 ^ 31 by decide)) rfl hat kk
theorem an_59 {i : Nat} (hat : At Y pc .arraylength 1 pc') (kk : AW K Y h Q pc' ls (vi ((160 : Nat) : Int) :: st) N g) : AW K Y h Q pc ls (vr 59 i :: st) N g := r_alen (c := 0) (Or.inl rfl) (Or.inl rfl) hat kk
theorem al_60 {i n : Nat} {j : Int} (hj : j = (n : Int)) (hn : n < 1) (hat : At Y pc .laload 1 pc') (kk : AW K Y h Q pc' ls (vl (N 60 i n) :: st) N g) : AW K Y h Q pc ls (vi j :: vr 60 i :: st) N g := r_lald hj hn (Nat.lt_trans hn (show 1 < 2 ^ 31 by decide)) rfl hat kk
theorem as_60 {i n : Nat} {j v : Int} (hj : j = (n : Int)) (hn : n < 1) (hat : At Y pc .lastore 1 pc') (kk : AW K Y h Q pc' ls st (upN N 60 i n v) g) : AW K Y h Q pc ls (vl v :: vi j :: vr 60 i :: st) N g := r_last hj hn (Nat.lt_trans hn (show 1 < 2 ^ 31 by decide)) rfl hat kk
theorem an_60 {i : Nat} (hat : At Y pc .arraylength 1 pc') (kk : AW K Y h Q pc' ls (vi ((1 : Nat) : Int) :: st) N g) : AW K Y h Q pc ls (vr 60 i :: st) N g := r_alen (c := 1) (Or.inr rfl) (Or.inr rfl) hat kk
end Own
