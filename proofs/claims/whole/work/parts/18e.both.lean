/-! own text: the class and the reference answer alike: pieces, counts, and what else is asked -/
section Both3
variable {K : Kx} {d : Dk} {wg : Nat → Int} {p : Nat} {T : Nat → Int} {L : Nat} {N : Nm} {g : Ge}
theorem q_promised {v w : Int} (h : InvD d wg p T L N g) (uv : rL v) (uw : rI w) : BoI K YX9_promised YX10_promised hX9_promised hX10_promised [vl v, vi w] N g := by
  refine x_promised h.X uv uw (fun hg r N1 g1 e1 h1 => ⟨ScE.x h1, m_promised (h.x h1).M uv uw (fun _ r' N2 e2 h2 => ⟨e2.uq hg.2 e1, h.fx h1 h2⟩) (fun hn => absurd ⟨(h.x9 h1).trans hg.1, hg.2⟩ hn)⟩) (fun hn => ⟨ScE.rf N, m_promised h.M uv uw (fun hg => absurd ⟨h.e9.symm.trans hg.1, hg.2⟩ hn) (fun _ N2 h2 => ⟨rfl, h.fm h2⟩)⟩)
theorem q_cliff {i w : Int} (h : InvD d wg p T L N g) (ui : rI i) (uw : rI w) : BoL K YX9_cliff YX10_cliff hX9_cliff hX10_cliff [vi i, vi w] N g := by
  refine x_cliff h.X ui uw (fun hg r N1 g1 e1 h1 => ⟨ScE.x h1, m_cliff (h.x h1).M ui uw (fun _ r' N2 e2 h2 => ⟨e2.uq hg.2.2 e1, h.fx h1 h2⟩) (fun hn => absurd ⟨(h.x9 h1).trans hg.1, hg.2⟩ hn)⟩) (fun hn => ⟨ScE.rf N, m_cliff h.M ui uw (fun hg => absurd ⟨h.e9.symm.trans hg.1, hg.2⟩ hn) (fun _ N2 h2 => ⟨rfl, h.fm h2⟩)⟩)
theorem q_crossings {a o w : Int} (h : InvD d wg p T L N g) (ua : rI a) (uo : rI o) (uw : rI w) : BoL K YX9_crossings YX10_crossings hX9_crossings hX10_crossings [vi a, vi o, vi w] N g := by
  refine x_crossings h.X ua uo uw (fun hg r N1 g1 e1 h1 => ⟨ScE.x h1, m_crossings (h.x h1).M ua uo uw (fun _ r' N2 e2 h2 => ⟨e2.uq hg.2.2.2 e1, h.fx h1 h2⟩) (fun hn => absurd ⟨(h.x9 h1).trans hg.1, hg.2⟩ hn)⟩) (fun hn => ⟨ScE.rf N, m_crossings h.M ua uo uw (fun hg => absurd ⟨h.e9.symm.trans hg.1, hg.2⟩ hn) (fun _ N2 h2 => ⟨rfl, h.fm h2⟩)⟩)
theorem q_jumps {a : Int} (h : InvD d wg p T L N g) (ua : rI a) : BoI K YX9_jumps YX10_jumps hX9_jumps hX10_jumps [vi a] N g := by
  refine x_jumps h.X ua (fun hg P s hP N1 g1 h1 => ⟨ScE.x h1, m_jumps (h.x h1).M ua (fun _ P' s' hP' N2 h2 => ⟨by rw [(ct_ps hP' hP true).1], h.fx h1 h2⟩) (fun hn => absurd ⟨(h.x9 h1).trans hg.1, hg.2⟩ hn)⟩) (fun hn => ⟨ScE.rf N, m_jumps h.M ua (fun hg => absurd ⟨h.e9.symm.trans hg.1, hg.2⟩ hn) (fun _ N2 h2 => ⟨rfl, h.fm h2⟩)⟩)
theorem q_kinks {a w : Int} (h : InvD d wg p T L N g) (ua : rI a) (uw : rI w) : BoI K YX9_kinks YX10_kinks hX9_kinks hX10_kinks [vi a, vi w] N g := by
  refine x_kinks h.X ua uw (fun hg P s hP N1 g1 h1 => ⟨ScE.x h1, m_kinks (h.x h1).M ua uw (fun _ P' s' hP' N2 h2 => ⟨by rw [(ct_ps hP' hP (decide (w = 0))).2.1], h.fx h1 h2⟩) (fun hn => absurd ⟨(h.x9 h1).trans hg.1, hg.2⟩ hn)⟩) (fun hn => ⟨ScE.rf N, m_kinks h.M ua uw (fun hg => absurd ⟨h.e9.symm.trans hg.1, hg.2⟩ hn) (fun _ N2 h2 => ⟨rfl, h.fm h2⟩)⟩)
theorem q_piece {a i w : Int} (h : InvD d wg p T L N g) (ua : rI a) (ui : rI i) (uw : rI w) : BoL K YX9_piece YX10_piece hX9_piece hX10_piece [vi a, vi i, vi w] N g := by
  refine x_piece h.X ua ui uw (fun hg P s hP N1 g1 h1 => ⟨ScE.x h1, m_piece (h.x h1).M ua ui uw (fun _ _ P' s' hP' N2 h2 => ⟨pcA_cg hP' hP _ _, h.fx h1 h2⟩) (fun hn N2 h2 => ⟨(if_neg (fun c => hn ⟨(h.x9 h1).trans hg.1, hg.2.1, c.2.2⟩)).symm, h.fx h1 h2⟩)⟩)
    (fun hn => ⟨ScE.rf N, m_piece h.M ua ui uw (fun hg _ P' s' hP' N2 h2 => ⟨if_neg (fun c => hn ⟨h.e9.symm.trans hg.1, hg.2, c.1⟩), h.fm h2⟩) (fun _ N2 h2 => ⟨rfl, h.fm h2⟩)⟩)
theorem Ps.place {F : Nat → Int} {P Q q q' w : Nat} {s t : Nat → Nat} (h1 : Ps F P s) (h2 : Ps F Q t) (a1 : q < P) (a2 : s q ≤ w) (a3 : w < s (q + 1)) (b1 : q' < Q) (b2 : t q' ≤ w) (b3 : w < t (q' + 1)) : q' = q := by
  obtain ⟨rfl, e⟩ := h1.uq h2
  rw [← e _ (by omega)] at b2
  rw [← e _ (by omega)] at b3
  rcases Nat.lt_trichotomy q q' with c | c | c
  · have := h1.le q' (by omega) (q + 1) (by omega)
    omega
  · exact c.symm
  · have := h1.le q (by omega) (q' + 1) (by omega)
    omega
theorem q_pieceAt {a w : Int} (h : InvD d wg p T L N g) (ua : rI a) (uw : rI w) : BoI K YX9_pieceAt YX10_pieceAt hX9_pieceAt hX10_pieceAt [vi a, vi w] N g := by
  refine x_pieceAt h.X ua uw (fun hg P s hP q N1 g1 a1 a2 a3 h1 => ⟨ScE.x h1, m_pieceAt (h.x h1).M ua uw (fun _ P' s' hP' q' N2 b1 b2 b3 h2 => ⟨by rw [hP.place hP' a1 a2 a3 b1 b2 b3], h.fx h1 h2⟩) (fun hn => absurd ⟨(h.x9 h1).trans hg.1, hg.2⟩ hn)⟩) (fun hn => ⟨ScE.rf N, m_pieceAt h.M ua uw (fun hg => absurd ⟨h.e9.symm.trans hg.1, hg.2⟩ hn) (fun _ N2 h2 => ⟨rfl, h.fm h2⟩)⟩)
theorem q_rate {i : Int} (h : InvD d wg p T L N g) (ui : rI i) : BoI K YX9_rate YX10_rate hX9_rate hX10_rate [vi i] N g := by
  refine x_rate h.X ui (fun hg P s hP N1 g1 h1 => ⟨ScE.x h1, m_rate (h.x h1).M ui (fun _ P' s' hP' N2 h2 => ⟨rtA_cg hP' hP _, h.fx h1 h2⟩) (fun hn => absurd ((h.x9 h1).trans hg.1) hn)⟩)
    (fun hn => ⟨ScE.rf N, m_rate h.M ui (fun hg P' s' hP' N2 h2 => ⟨if_neg (fun c => hn ⟨h.e9.symm.trans hg, c.1⟩), h.fm h2⟩) (fun _ N2 h2 => ⟨rfl, h.fm h2⟩)⟩)
theorem q_most {w : Int} (h : InvD d wg p T L N g) (uw : rI w) : BoL K YX9_most YX10_most hX9_most hX10_most [vi w] N g := by
  refine x_most h.X uw (fun hg r N1 g1 e1 h1 => ⟨ScE.x h1, m_most (h.x h1).M uw (fun _ r' N2 e2 h2 => ⟨e2.uq hg.2 e1, h.fx h1 h2⟩) (fun hn => absurd ⟨(h.x9 h1).trans hg.1, hg.2⟩ hn)⟩)
    (fun hn => ⟨ScE.rf N, m_most h.M uw (fun hg => absurd (h.e9.symm.trans hg.1) hn) (fun _ N2 h2 => ⟨rfl, h.fm h2⟩)⟩)
    (fun h9 hn N1 g1 h1 => ⟨ScE.x h1, m_most (h.x h1).M uw (fun hg => absurd hg.2 hn) (fun _ N2 h2 => ⟨rfl, h.fx h1 h2⟩)⟩)
theorem q_count {w : Int} (h : InvD d wg p T L N g) (uw : rI w) : BoI K YX9_count YX10_count hX9_count hX10_count [vi w] N g := by
  refine x_count h.X uw (fun e0 => ⟨ScE.rf N, m_count h.M uw (fun _ N2 h2 => ⟨h.2.1.2.1.1.trans h.1.2.2.1.1.symm, h.fm h2⟩) (fun e => by omega) (fun e => by omega) (fun e => absurd e0 e)⟩)
    (fun e1 h9 => ⟨ScE.rf N, m_count h.M uw (fun e => by omega) (fun _ _ N2 h2 => ⟨rfl, h.fm h2⟩) (fun e => by omega) (fun _ hn => absurd ⟨h.e9.trans h9, by omega⟩ hn)⟩)
    (fun e2 h9 f N1 g1 hf h1 => ⟨ScE.x h1, m_count (h.x h1).M uw (fun e => by omega) (fun e => by omega) (fun _ _ f' N2 hf' h2 => ⟨sN_cg _ (fun k hk => by
      obtain ⟨s, hs⟩ := hf k hk
      obtain ⟨s', hs'⟩ := hf' k hk
      exact (hs'.uq hs).1), h.fx h1 h2⟩) (fun _ hn => absurd ⟨(h.x9 h1).trans h9, by omega⟩ hn)⟩)
    (fun e0 hn => ⟨ScE.rf N, m_count h.M uw (fun e => absurd e e0) (fun e q => absurd ⟨h.e9.symm.trans q, by omega⟩ hn) (fun e q => absurd ⟨h.e9.symm.trans q, by omega⟩ hn) (fun _ _ N2 h2 => ⟨rfl, h.fm h2⟩)⟩)
theorem q_rule {w : Int} (h : InvD d wg p T L N g) (uw : rI w) : BoI K YX9_rule YX10_rule hX9_rule hX10_rule [vi w] N g := by
  refine x_rule h.X uw (fun hg r N1 g1 e1 h1 => ⟨ScE.x h1, m_rule (h.x h1).M uw (fun _ r' N2 e2 h2 => ⟨?_, h.fx h1 h2⟩) (fun hn => absurd ⟨(h.x9 h1).trans hg.1, hg.2⟩ hn)⟩) (fun hn => ⟨ScE.rf N, m_rule h.M uw (fun hg => absurd ⟨h.e9.symm.trans hg.1, hg.2⟩ hn) (fun _ N2 h2 => ⟨rfl, h.fm h2⟩)⟩)
  obtain ⟨a0, a1, a2, a3, a4, a5⟩ := e1
  obtain ⟨b0, b1, b2, b3, b4, b5⟩ := e2
  have hc : w = 0 ∨ w = 1 ∨ w = 2 ∨ w = 3 ∨ w = 4 ∨ w = 5 := by omega
  rcases hc with e | e | e | e | e | e
  · rw [a0 e, b0 e]
  · rw [a1 e, b1 e]
  · rw [a2 e, b2 e, (h.x h1).Z.1, h.Y.1]
  · rw [a3 e, b3 e]
  · obtain ⟨P, s, c1, c2⟩ := a4 e
    obtain ⟨P', s', c1', c2'⟩ := b4 e
    rw [c2, c2', (c1.uq c1').1]
  · rw [a5 e, b5 e]
theorem q_sofar {w : Int} (h : InvD d wg p T L N g) (uw : rI w) : BoL K YX9_sofar YX10_sofar hX9_sofar hX10_sofar [vi w] N g := by
  refine x_sofar h.X h.Y uw (fun hg r N1 g1 e1 h1 => ⟨ScE.x h1, m_sofar (h.x h1).M (h.x h1).Z uw (fun _ r' N2 e2 h2 => ⟨?_, h.fx h1 h2⟩) (fun hn => absurd ⟨(h.x9 h1).trans hg.1, hg.2⟩ hn)⟩) (fun hn => ⟨ScE.rf N, m_sofar h.M h.Z uw (fun hg => absurd ⟨h.e9.symm.trans hg.1, hg.2⟩ hn) (fun _ N2 h2 => ⟨rfl, h.fm h2⟩)⟩)
  rcases four hg.2 with e | e | e | e
  · rw [e1.1 e, e2.1 e]
  · rw [e1.2.1 e, e2.2.1 e]
  · rw [e1.2.2.1 e, e2.2.2.1 e]
  · exact (e2.2.2.2 e).uniq (e1.2.2.2 e)
end Both3
