/-! own text: what holds between two calls of the law: the class and the reference hold one desk, one tape, one year, the same refusals -/
def InX (d : Dk) (wg : Nat → Int) (p : Nat) (T : Nat → Int) (L : Nat) (N : Nm) (g : Ge) : Prop := XS N g d ∧ G2 g ∧ Tp N T L ∧ YI N wg p
def InM (d : Dk) (wg : Nat → Int) (p : Nat) (T : Nat → Int) (L : Nat) (N : Nm) : Prop := MS N d ∧ Mp N T L ∧ YM N wg p
def InB (N : Nm) : Prop := N 40 0 22 = N 0 0 9 ∧ ∀ k, N 54 0 k = N 19 0 k
def InvD (d : Dk) (wg : Nat → Int) (p : Nat) (T : Nat → Int) (L : Nat) (N : Nm) (g : Ge) : Prop := InX d wg p T L N g ∧ InM d wg p T L N ∧ InB N
def Inv (N : Nm) (g : Ge) : Prop := ∃ d wg p T L, InvD d wg p T L N g
/-- script and ghost as they were -/
def ScE (N N' : Nm) : Prop := (∀ i j, N' 61 i j = N 61 i j) ∧ N' 99 0 0 = N 99 0 0
/-- behind both calls -/
def Fin2 (N N' : Nm) (g' : Ge) : Prop := (∀ i j, N' 61 i j = N 61 i j) ∧ N 99 0 0 ≤ N' 99 0 0 + 1 ∧ Inv N' g'
theorem ScE.rf (N : Nm) : ScE N N := ⟨fun _ _ => rfl, rfl⟩
theorem ScE.tr {A B C : Nm} (h1 : ScE A B) (h2 : ScE B C) : ScE A C := ⟨fun i j => (h2.1 i j).trans (h1.1 i j), h2.2.trans h1.2⟩
theorem Fin2.of {N N' : Nm} {g' : Ge} (h : ScE N N') (hI : Inv N' g') : Fin2 N N' g' := ⟨h.1, by rw [h.2]; omega, hI⟩
section Inv1
variable {d : Dk} {wg : Nat → Int} {p : Nat} {T : Nat → Int} {L : Nat} {N N' : Nm} {g g' : Ge}
theorem InX.of (h : InX d wg p T L N g) (hN : ∀ k i j, k ≤ 35 → ¬ (k = 18 ∨ k = 19) → N' k i j = N k i j) : InX d wg p T L N' g :=
  ⟨h.1.of (fun k i j q => hN k i j (by omega) (by omega)), h.2.1, h.2.2.1.of (hN 1 0 1 (by omega) (by omega)) (fun j => hN 2 0 j (by omega) (by omega)), by rw [hN 16 0 1 (by omega) (by omega)]; exact h.2.2.2.1, h.2.2.2.2.1, fun j hj => by rw [hN 17 0 j (by omega) (by omega)]; exact h.2.2.2.2.2 j hj⟩
theorem MS.of {N N' : Nm} {d : Dk} (h : MS N d) (hN : ∀ k i j, (k = 40 ∧ 19 ≤ j ∧ j ≤ 27 ∧ j ≠ 25) ∨ (43 ≤ k ∧ k ≤ 53) → N' k i j = N k i j) : MS N' d :=
  ⟨by rw [hN 40 0 22 (by omega)]; exact h.1, by rw [hN 40 0 27 (by omega)]; exact h.2.1, fun q => by
    rw [hN 40 0 22 (by omega)] at q
    obtain ⟨h1, h2, h3⟩ := h.2.2 q
    exact ⟨h1, h2.of (hN 40 0 19 (by omega)) (fun k j q1 q2 => hN k 0 j (by omega)), by rw [hN 40 0 20 (by omega)]; exact h3⟩⟩
theorem InM.of (h : InM d wg p T L N) (hN : ∀ k i j, 40 ≤ k → k ≤ 59 → k ≠ 54 → N' k i j = N k i j) : InM d wg p T L N' :=
  ⟨h.1.of (fun k i j q => hN k i j (by omega) (by omega) (by omega)), h.2.1.of (hN 40 0 2 (by omega) (by omega) (by omega)) (fun j => hN 41 0 j (by omega) (by omega) (by omega)), by rw [hN 40 0 25 (by omega) (by omega) (by omega)]; exact h.2.2.1, h.2.2.2.1, fun j hj => by rw [hN 55 0 j (by omega) (by omega) (by omega)]; exact h.2.2.2.2 j hj⟩
theorem InX.xt (h : InX d wg p T L N g) (q : XT N g d N' g') : InX d wg p T L N' g' := by
  obtain ⟨h1, h2, h3, h4⟩ := h
  refine ⟨q.2.2, ?_, h3.of (q.1 1 0 1 (by omega) (by omega)) (fun j => q.1 2 0 j (by omega) (by omega)), h4.frq q.1⟩
  unfold G2 at h2 ⊢
  rw [q.2.1.1, q.2.1.2.1]
  exact h2
theorem InM.v (h : InM d wg p T L N) (q : FrV N N') : InM d wg p T L N' := ⟨h.1.v q, h.2.1.of (q 40 0 2 (by omega) (by omega)) (fun j => q 41 0 j (by omega) (by omega)), h.2.2.v q⟩
theorem InvD.x (h : InvD d wg p T L N g) (q : XT N g d N' g') : InvD d wg p T L N' g' :=
  ⟨h.1.xt q, h.2.1.of (fun k i j q1 _ _ => q.1 k i j (by omega) (by omega)), by rw [q.1 40 0 22 (by omega) (by omega), q.1 0 0 9 (by omega) (by omega)]; exact h.2.2.1, fun k => by rw [q.1 54 0 k (by omega) (by omega), q.1 19 0 k (by omega) (by omega)]; exact h.2.2.2 k⟩
theorem InvD.m (h : InvD d wg p T L N g) (q : FrV N N') : InvD d wg p T L N' g :=
  ⟨h.1.of (fun k i j q1 _ => q k i j (by omega) (by omega)), h.2.1.v q, by rw [q 40 0 22 (by omega) (by omega), q 0 0 9 (by omega) (by omega)]; exact h.2.2.1, fun k => by rw [q 54 0 k (by omega) (by omega), q 19 0 k (by omega) (by omega)]; exact h.2.2.2 k⟩
theorem ScE.x (q : XT N g d N' g') : ScE N N' := ⟨fun i j => q.1 61 i j (by omega) (by omega), q.1 99 0 0 (by omega) (by omega)⟩
theorem ScE.v (q : FrV N N') : ScE N N' := ⟨fun i j => q 61 i j (by omega) (by omega), q 99 0 0 (by omega) (by omega)⟩
theorem InvD.i (h : InvD d wg p T L N g) : Inv N g := ⟨d, wg, p, T, L, h⟩
theorem InvD.e9 (h : InvD d wg p T L N g) : N 40 0 22 = N 0 0 9 := h.2.2.1
/-- the class' asked first, then the reference: the same answer -/
theorem InvD.x9 (h : InvD d wg p T L N g) (q : XT N g d N' g') : N' 40 0 22 = N 0 0 9 := (h.x q).e9.trans (q.1 0 0 9 (by omega) (by omega))
theorem InvD.X (h : InvD d wg p T L N g) : XS N g d := h.1.1
theorem InvD.M (h : InvD d wg p T L N g) : MS N d := h.2.1.1
theorem InvD.Y (h : InvD d wg p T L N g) : YI N wg p := h.1.2.2.2
theorem InvD.Z (h : InvD d wg p T L N g) : YM N wg p := h.2.1.2.2
end Inv1
def BoL (K : Kx) (Yx Ym : Ys) (hx hm : Nat) (as : List AV) (N : Nm) (g : Ge) : Prop := Ck K Yx hx (vr 0 0 :: as) N g (qL (fun z N1 g1 => ScE N N1 ∧ Ck K Ym hm (vr 40 0 :: as) N1 g1 (qL (fun z' N2 g2 => z' = z ∧ Fin2 N N2 g2))))
def BoI (K : Kx) (Yx Ym : Ys) (hx hm : Nat) (as : List AV) (N : Nm) (g : Ge) : Prop := Ck K Yx hx (vr 0 0 :: as) N g (qI (fun z N1 g1 => ScE N N1 ∧ Ck K Ym hm (vr 40 0 :: as) N1 g1 (qI (fun z' N2 g2 => z' = z ∧ Fin2 N N2 g2))))
theorem Ck.mapL {K : Kx} {Y : Ys} {h : Nat} {as : List AV} {N : Nm} {g : Ge} {P P' : Int → Nm → Ge → Prop} (hp : ∀ z N' g', P z N' g' → P' z N' g') (kk : Ck K Y h as N g (qL P)) : Ck K Y h as N g (qL P') := Ck.post (fun _ N' g' ⟨z, e, q⟩ => ⟨z, e, hp z N' g' q⟩) kk
theorem Ck.mapI {K : Kx} {Y : Ys} {h : Nat} {as : List AV} {N : Nm} {g : Ge} {P P' : Int → Nm → Ge → Prop} (hp : ∀ z N' g', P z N' g' → P' z N' g') (kk : Ck K Y h as N g (qI P)) : Ck K Y h as N g (qI P') := Ck.post (fun _ N' g' ⟨z, e, q⟩ => ⟨z, e, hp z N' g' q⟩) kk
