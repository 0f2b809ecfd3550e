/-! own text, printed by wip/whole/gen/mk18.py: questions whose answers are given outright: the class and the reference answer alike -/
section Both1
variable {K : Kx} {d : Dk} {wg : Nat → Int} {p : Nat} {T : Nat → Int} {L : Nat} {N : Nm} {g : Ge}
theorem InvD.fx {N1 N2 : Nm} {g1 : Ge} (h : InvD d wg p T L N g) (q : XT N g d N1 g1) (f : FrV N1 N2) : Fin2 N N2 g1 := Fin2.of ((ScE.x q).tr (ScE.v f)) ((h.x q).m f).i
theorem InvD.fm {N2 : Nm} (h : InvD d wg p T L N g) (f : FrV N N2) : Fin2 N N2 g := Fin2.of (ScE.v f) (h.m f).i
theorem q_at {a w : Int} (h : InvD d wg p T L N g) (ua : rI a) (uw : rI w) : BoL K YX9_at YX10_at hX9_at hX10_at [vi a, vi w] N g := by
  refine x_at h.X ua uw (fun hg N1 g1 h1 => ⟨ScE.x h1, m_at (h.x h1).M ua uw (fun _ N2 h2 => ⟨rfl, h.fx h1 h2⟩) (fun hn => absurd ⟨(h.x9 h1).trans hg.1, hg.2⟩ hn)⟩) (fun hn => ⟨ScE.rf N, m_at h.M ua uw (fun hg => absurd ⟨h.e9.symm.trans hg.1, hg.2⟩ hn) (fun _ N2 h2 => ⟨rfl, h.fm h2⟩)⟩)
theorem q_sum {a w : Int} (h : InvD d wg p T L N g) (ua : rI a) (uw : rI w) : BoL K YX9_sum YX10_sum hX9_sum hX10_sum [vi a, vi w] N g := by
  refine x_sum h.X ua uw (fun hg N1 g1 h1 => ⟨ScE.x h1, m_sum (h.x h1).M ua uw (fun _ N2 h2 => ⟨rfl, h.fx h1 h2⟩) (fun hn => absurd ⟨(h.x9 h1).trans hg.1, hg.2⟩ hn)⟩) (fun hn => ⟨ScE.rf N, m_sum h.M ua uw (fun hg => absurd ⟨h.e9.symm.trans hg.1, hg.2⟩ hn) (fun _ N2 h2 => ⟨rfl, h.fm h2⟩)⟩)
theorem q_which {a w : Int} (h : InvD d wg p T L N g) (ua : rI a) (uw : rI w) : BoI K YX9_which YX10_which hX9_which hX10_which [vi a, vi w] N g := by
  refine x_which h.X ua uw (fun hg N1 g1 h1 => ⟨ScE.x h1, m_which (h.x h1).M ua uw (fun _ N2 h2 => ⟨rfl, h.fx h1 h2⟩) (fun hn => absurd ⟨(h.x9 h1).trans hg.1, hg.2⟩ hn)⟩) (fun hn => ⟨ScE.rf N, m_which h.M ua uw (fun hg => absurd ⟨h.e9.symm.trans hg.1, hg.2⟩ hn) (fun _ N2 h2 => ⟨rfl, h.fm h2⟩)⟩)
theorem q_more {w : Int} (h : InvD d wg p T L N g) (uw : rI w) : BoL K YX9_more YX10_more hX9_more hX10_more [vi w] N g := by
  refine x_more h.X uw (fun hg N1 g1 h1 => ⟨ScE.x h1, m_more (h.x h1).M uw (fun _ N2 h2 => ⟨rfl, h.fx h1 h2⟩) (fun hn => absurd ⟨(h.x9 h1).trans hg.1, hg.2⟩ hn)⟩) (fun hn => ⟨ScE.rf N, m_more h.M uw (fun hg => absurd ⟨h.e9.symm.trans hg.1, hg.2⟩ hn) (fun _ N2 h2 => ⟨rfl, h.fm h2⟩)⟩)
theorem q_through {a w : Int} (h : InvD d wg p T L N g) (ua : rI a) (uw : rI w) : BoL K YX9_through YX10_through hX9_through hX10_through [vi a, vi w] N g := by
  refine x_through h.X ua uw (fun hg N1 g1 h1 => ⟨ScE.x h1, m_through (h.x h1).M ua uw (fun _ N2 h2 => ⟨rfl, h.fx h1 h2⟩) (fun hn => absurd ⟨(h.x9 h1).trans hg.1, hg.2⟩ hn)⟩) (fun hn => ⟨ScE.rf N, m_through h.M ua uw (fun hg => absurd ⟨h.e9.symm.trans hg.1, hg.2⟩ hn) (fun _ N2 h2 => ⟨rfl, h.fm h2⟩)⟩)
theorem q_without {a w : Int} (h : InvD d wg p T L N g) (ua : rI a) (uw : rI w) : BoL K YX9_without YX10_without hX9_without hX10_without [vi a, vi w] N g := by
  refine x_without h.X ua uw (fun hg N1 g1 h1 => ⟨ScE.x h1, m_without (h.x h1).M ua uw (fun _ N2 h2 => ⟨rfl, h.fx h1 h2⟩) (fun hn => absurd ⟨(h.x9 h1).trans hg.1, hg.2⟩ hn)⟩) (fun hn => ⟨ScE.rf N, m_without h.M ua uw (fun hg => absurd ⟨h.e9.symm.trans hg.1, hg.2⟩ hn) (fun _ N2 h2 => ⟨rfl, h.fm h2⟩)⟩)
theorem q_kept {w : Int} (h : InvD d wg p T L N g) (uw : rI w) : BoL K YX9_kept YX10_kept hX9_kept hX10_kept [vi w] N g := by
  refine x_kept h.X uw (fun hg N1 g1 h1 => ⟨ScE.x h1, m_kept (h.x h1).M uw (fun _ N2 h2 => ⟨rfl, h.fx h1 h2⟩) (fun hn => absurd ⟨(h.x9 h1).trans hg.1, hg.2⟩ hn)⟩) (fun hn => ⟨ScE.rf N, m_kept h.M uw (fun hg => absurd ⟨h.e9.symm.trans hg.1, hg.2⟩ hn) (fun _ N2 h2 => ⟨rfl, h.fm h2⟩)⟩)
theorem q_segment {a s w : Int} (h : InvD d wg p T L N g) (ua : rI a) (us : rI s) (uw : rI w) : BoI K YX9_segment YX10_segment hX9_segment hX10_segment [vi a, vi s, vi w] N g := by
  refine x_segment h.X ua us uw (fun hg N1 g1 h1 => ⟨ScE.x h1, m_segment (h.x h1).M ua us uw (fun _ N2 h2 => ⟨rfl, h.fx h1 h2⟩) (fun hn => absurd ⟨(h.x9 h1).trans hg.1, hg.2⟩ hn)⟩) (fun hn => ⟨ScE.rf N, m_segment h.M ua us uw (fun hg => absurd ⟨h.e9.symm.trans hg.1, hg.2⟩ hn) (fun _ N2 h2 => ⟨rfl, h.fm h2⟩)⟩)
theorem q_average {w : Int} (h : InvD d wg p T L N g) (uw : rI w) : BoL K YX9_average YX10_average hX9_average hX10_average [vi w] N g := by
  refine x_average h.X uw (fun hg N1 g1 h1 => ⟨ScE.x h1, m_average (h.x h1).M uw (fun _ N2 h2 => ⟨rfl, h.fx h1 h2⟩) (fun hn => absurd ⟨(h.x9 h1).trans hg.1, hg.2⟩ hn)⟩) (fun hn => ⟨ScE.rf N, m_average h.M uw (fun hg => absurd ⟨h.e9.symm.trans hg.1, hg.2⟩ hn) (fun _ N2 h2 => ⟨rfl, h.fm h2⟩)⟩)
theorem q_both {w o : Int} (h : InvD d wg p T L N g) (uw : rI w) (uo : rI o) : BoL K YX9_both YX10_both hX9_both hX10_both [vi w, vi o] N g := by
  refine x_both h.X uw uo (fun hg N1 g1 h1 => ⟨ScE.x h1, m_both (h.x h1).M uw uo (fun _ N2 h2 => ⟨rfl, h.fx h1 h2⟩) (fun hn => absurd ⟨(h.x9 h1).trans hg.1, hg.2⟩ hn)⟩) (fun hn => ⟨ScE.rf N, m_both h.M uw uo (fun hg => absurd ⟨h.e9.symm.trans hg.1, hg.2⟩ hn) (fun _ N2 h2 => ⟨rfl, h.fm h2⟩)⟩)
theorem q_year {a w : Int} (h : InvD d wg p T L N g) (ua : rI a) (uw : rI w) : BoL K YX9_year YX10_year hX9_year hX10_year [vi a, vi w] N g := by
  refine x_year h.X h.Y ua uw (fun hg N1 g1 h1 => ⟨ScE.x h1, m_year (h.x h1).M (h.x h1).Z ua uw (fun _ N2 h2 => ⟨rfl, h.fx h1 h2⟩) (fun hn => absurd ⟨(h.x9 h1).trans hg.1, hg.2⟩ hn)⟩) (fun hn => ⟨ScE.rf N, m_year h.M h.Z ua uw (fun hg => absurd ⟨h.e9.symm.trans hg.1, hg.2⟩ hn) (fun _ N2 h2 => ⟨rfl, h.fm h2⟩)⟩)
theorem q_putIn {a w b : Int} (h : InvD d wg p T L N g) (ua : rI a) (uw : rI w) (ub : rI b) : BoL K YX9_putIn YX10_putIn hX9_putIn hX10_putIn [vi a, vi w, vi b] N g := by
  refine x_putIn h.X h.Y ua uw ub (fun hg N1 g1 h1 => ⟨ScE.x h1, m_putIn (h.x h1).M (h.x h1).Z ua uw ub (fun _ N2 h2 => ⟨rfl, h.fx h1 h2⟩) (fun hn => absurd ⟨(h.x9 h1).trans hg.1, hg.2⟩ hn)⟩) (fun hn => ⟨ScE.rf N, m_putIn h.M h.Z ua uw ub (fun hg => absurd ⟨h.e9.symm.trans hg.1, hg.2⟩ hn) (fun _ N2 h2 => ⟨rfl, h.fm h2⟩)⟩)
theorem q_dueAhead (h : InvD d wg p T L N g) : BoL K YX9_dueAhead YX10_dueAhead hX9_dueAhead hX10_dueAhead [] N g := by
  refine x_dueAhead h.X h.Y (fun hg N1 g1 h1 => ⟨ScE.x h1, m_dueAhead (h.x h1).M (h.x h1).Z (fun _ N2 h2 => ⟨rfl, h.fx h1 h2⟩) (fun hn => absurd ((h.x9 h1).trans hg) hn)⟩) (fun hn => ⟨ScE.rf N, m_dueAhead h.M h.Z (fun hg => absurd (h.e9.symm.trans hg) hn) (fun _ N2 h2 => ⟨rfl, h.fm h2⟩)⟩)
theorem q_status {w : Int} (h : InvD d wg p T L N g) (uw : rI w) : BoI K YX9_status YX10_status hX9_status hX10_status [vi w] N g := by
  refine x_status uw (fun hg => ⟨ScE.rf N, m_status h.M uw (fun _ N2 h2 => ⟨h.2.2.2 _, h.fm h2⟩) (fun hn => absurd hg hn)⟩) (fun hn => ⟨ScE.rf N, m_status h.M uw (fun hg => absurd hg hn) (fun _ N2 h2 => ⟨rfl, h.fm h2⟩)⟩)
end Both1
