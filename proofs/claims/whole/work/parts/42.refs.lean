/-! the reference's world -/
/-- the 61 numbers of a state say a card -/
def gV (V : CV) (g : Nat → Int) : Prop := match V with
  | (v, p, sh, ln, pr, gd, co, c, s) => (g 0 = v ∧ g 1 = p ∧ g 2 = sh ∧ g 3 = ln ∧ g 4 = pr ∧ g 5 = gd ∧ g 6 = co) ∧ (∀ j : Nat, (j : Int) < p → g (7 + j) = s j) ∧ (∀ j : Nat, p ≤ (j : Int) → j < 6 → g (7 + j) = 0) ∧ (∀ j : Nat, (j : Int) < 12 * v → g (13 + j) = c j) ∧ (∀ j : Nat, 12 * v ≤ (j : Int) → j < 48 → g (13 + j) = 0)
theorem gV_congr {V : CV} {g g2 : Nat → Int} (hk : V.1 ≤ 4 ∧ V.2.1 ≤ 6) (h : ∀ j : Nat, j < 61 → g j = g2 j) (q : gV V g) : gV V g2 := by
  obtain ⟨v, p, sh, ln, pr, gd, co, c, s⟩ := V
  have hv : v ≤ 4 := hk.1
  have hp : p ≤ 6 := hk.2
  obtain ⟨⟨a0, a1, a2, a3, a4, a5, a6⟩, b1, b2, b3, b4⟩ := q
  refine ⟨⟨?_, ?_, ?_, ?_, ?_, ?_, ?_⟩, fun j hj => ?_, fun j hj hj2 => ?_, fun j hj => ?_, fun j hj hj2 => ?_⟩
  · rw [← h 0 (by omega)]; exact a0
  · rw [← h 1 (by omega)]; exact a1
  · rw [← h 2 (by omega)]; exact a2
  · rw [← h 3 (by omega)]; exact a3
  · rw [← h 4 (by omega)]; exact a4
  · rw [← h 5 (by omega)]; exact a5
  · rw [← h 6 (by omega)]; exact a6
  · rw [← h (7 + j) (by omega)]; exact b1 j hj
  · rw [← h (7 + j) (by omega)]; exact b2 j hj hj2
  · rw [← h (13 + j) (by omega)]; exact b3 j hj
  · rw [← h (13 + j) (by omega)]; exact b4 j hj hj2
/-- cards that agree where they are told are said by the same numbers -/
theorem gV_e {V U : CV} {g : Nat → Int} (hk : V.1 ≤ 4 ∧ V.2.1 ≤ 6) (h : CVe V U) (q : gV V g) : gV U g := by
  obtain ⟨v, p, sh, ln, pr, gd, co, c, s⟩ := V
  obtain ⟨v2, p2, sh2, ln2, pr2, gd2, co2, c2, s2⟩ := U
  obtain ⟨⟨e0, e1, e2, e3, e4, e5, e6⟩, hc, hs⟩ := h
  dsimp only at e0 e1 e2 e3 e4 e5 e6 hc hs hk
  subst e0 e1 e2 e3 e4 e5 e6
  obtain ⟨a, b1, b2, b3, b4⟩ := q
  refine ⟨a, fun j hj => ?_, b2, fun j hj => ?_, b4⟩
  · rw [b1 j hj, hs j (by omega)]
  · rw [b3 j hj, hc j (by omega)]
def REFG (w : av_W) (g ke : Nat → Int) (V : CV) (L : Nat → CV) (n : Int) (S : CV) (hs len : Int) (t : Nat → Int) : Prop :=
  42 ≤ w.1 ∧ (∃ sp rv rs oa, w.2.2 33 = mdO n hs len sp rv rs oa) ∧ (w.2.2 34 = arO 61 g ∧ gV V g) ∧ w.2.2 35 = arO 61 ke ∧ (∃ H, w.2.2 36 = arO 244 H ∧ ∀ i : Nat, (i : Int) < n → gV (L i) (fun j => H (61 * i + j))) ∧ (∃ Sn, w.2.2 37 = arO 61 Sn ∧ (hs = 1 → gV S Sn)) ∧ (∃ so, w.2.2 38 = arO 228 so) ∧ (∃ be, w.2.2 39 = arO 6 be) ∧ (∃ hd, w.2.2 40 = arO 6 hd) ∧ ∃ tm, w.2.2 41 = arO 80 tm ∧ TR tm ∧ t = cOf tm
def REFS (w : av_W) (V : CV) (L : Nat → CV) (n : Int) (S : CV) (hs len : Int) (t : Nat → Int) : Prop := ∃ g ke, REFG w g ke V L n S hs len t
def RM (w w' : av_W) (r' : Option Value) (x : Int) (V : CV) (L : Nat → CV) (n : Int) (S : CV) (hs len : Int) (t : Nat → Int) : Prop := r' = some (.int (iN x)) ∧ agO 33 42 w w' ∧ REFS w' V L n S hs len t
theorem REFG_34 {w : av_W} {g ke g2 : Nat → Int} {V V2 : CV} {L : Nat → CV} {n : Int} {S : CV} {hs len : Int} {t : Nat → Int} (h : REFG w g ke V L n S hs len t) (h2 : gV V2 g2) : REFG (wst w 34 (arO 61 g2)) g2 ke V2 L n S hs len t := by
  obtain ⟨a0, ⟨sp, rv, rs, oa, a1⟩, -, a3, ⟨H, a4, a5⟩, ⟨Sn, a6, a7⟩, ⟨so, a8⟩, ⟨be, a9⟩, ⟨hd, b1⟩, ⟨tm, b2, b3⟩⟩ := h
  exact ⟨a0, ⟨sp, rv, rs, oa, (wst_ne (by decide)).trans a1⟩, ⟨wst_self, h2⟩, (wst_ne (by decide)).trans a3, ⟨H, (wst_ne (by decide)).trans a4, a5⟩, ⟨Sn, (wst_ne (by decide)).trans a6, a7⟩, ⟨so, (wst_ne (by decide)).trans a8⟩, ⟨be, (wst_ne (by decide)).trans a9⟩, ⟨hd, (wst_ne (by decide)).trans b1⟩, ⟨tm, (wst_ne (by decide)).trans b2, b3⟩⟩
theorem REFG_35 {w : av_W} {g ke ke2 : Nat → Int} {V : CV} {L : Nat → CV} {n : Int} {S : CV} {hs len : Int} {t : Nat → Int} (h : REFG w g ke V L n S hs len t) : REFG (wst w 35 (arO 61 ke2)) g ke2 V L n S hs len t := by
  obtain ⟨a0, ⟨sp, rv, rs, oa, a1⟩, ⟨a2, a2b⟩, -, ⟨H, a4, a5⟩, ⟨Sn, a6, a7⟩, ⟨so, a8⟩, ⟨be, a9⟩, ⟨hd, b1⟩, ⟨tm, b2, b3⟩⟩ := h
  exact ⟨a0, ⟨sp, rv, rs, oa, (wst_ne (by decide)).trans a1⟩, ⟨(wst_ne (by decide)).trans a2, a2b⟩, wst_self, ⟨H, (wst_ne (by decide)).trans a4, a5⟩, ⟨Sn, (wst_ne (by decide)).trans a6, a7⟩, ⟨so, (wst_ne (by decide)).trans a8⟩, ⟨be, (wst_ne (by decide)).trans a9⟩, ⟨hd, (wst_ne (by decide)).trans b1⟩, ⟨tm, (wst_ne (by decide)).trans b2, b3⟩⟩
theorem REFG_38 {w : av_W} {g ke so2 : Nat → Int} {V : CV} {L : Nat → CV} {n : Int} {S : CV} {hs len : Int} {t : Nat → Int} (h : REFG w g ke V L n S hs len t) : REFG (wst w 38 (arO 228 so2)) g ke V L n S hs len t := by
  obtain ⟨a0, ⟨sp, rv, rs, oa, a1⟩, ⟨a2, a2b⟩, a3, ⟨H, a4, a5⟩, ⟨Sn, a6, a7⟩, -, ⟨be, a9⟩, ⟨hd, b1⟩, ⟨tm, b2, b3⟩⟩ := h
  exact ⟨a0, ⟨sp, rv, rs, oa, (wst_ne (by decide)).trans a1⟩, ⟨(wst_ne (by decide)).trans a2, a2b⟩, (wst_ne (by decide)).trans a3, ⟨H, (wst_ne (by decide)).trans a4, a5⟩, ⟨Sn, (wst_ne (by decide)).trans a6, a7⟩, ⟨so2, wst_self⟩, ⟨be, (wst_ne (by decide)).trans a9⟩, ⟨hd, (wst_ne (by decide)).trans b1⟩, ⟨tm, (wst_ne (by decide)).trans b2, b3⟩⟩
theorem m_remC (w : av_W) (g ke : Nat → Int) (V : CV) (L : Nat → CV) (n : Int) (S : CV) (hs len : Int) (t : Nat → Int) (h : REFG w g ke V L n S hs len t) (hk : V.1 ≤ 4 ∧ V.2.1 ≤ 6) : cl MX5_remember [.ref 33] w (fun r' w' => r' = none ∧ agO 33 42 w w' ∧ ∃ ke2, REFG w' g ke2 V L n S hs len t ∧ gV V ke2) := by
  obtain ⟨a0, ⟨sp, rv, rs, oa, a1⟩, ⟨a2, a2b⟩, a3, -⟩ := id h
  refine (m_remember w a0 n hs len sp rv rs oa a1 g a2 ke a3).imp (fun r' w' q => ?_)
  obtain ⟨e1, e2⟩ := q
  rw [e1, e2]
  exact ⟨rfl, agO.wst _ (by omega), _, REFG_35 h, gV_congr hk (fun j hj => (preF_lt (by omega)).symm) a2b⟩
theorem m_actC (w : av_W) (g ke : Nat → Int) (V V0 : CV) (L : Nat → CV) (n : Int) (S : CV) (hs len : Int) (t : Nat → Int) (h : REFG w g ke V L n S hs len t) (hk : V0.1 ≤ 4 ∧ V0.2.1 ≤ 6) (hke : gV V0 ke) (hL : ∀ i : Nat, (i : Int) < n → (L i).1 ≤ 4 ∧ (L i).2.1 ≤ 6) (hn : 0 ≤ n ∧ n ≤ 4) (x : Int) : cl MX5_acted [.ref 33, .int (iN x)] w (fun r' w' => RM w w' r' x V (recL L n V0) (recN n) S hs len t) := by
  obtain ⟨a0, ⟨sp, rv, rs, oa, a1⟩, a2, a3, ⟨H, a4, a5⟩, ⟨Sn, a6, a7⟩, ⟨so, a8⟩, ⟨be, a9⟩, ⟨hd, b1⟩, ⟨tm, b2, b3⟩⟩ := id h
  refine (m_acted w a0 n hs len sp rv rs oa a1 g a2.1 ke a3 H a4 hn x).imp (fun r' w' q => ?_)
  obtain ⟨e1, q1, q2⟩ := q
  have fin : ∀ (H2 : Nat → Int) (n2 : Int), w' = wst (wst w 36 (arO 244 H2)) 33 (mdO n2 hs len sp rv rs oa) → n2 = recN n → (∀ i : Nat, (i : Int) < n2 → gV (recL L n V0 i) (fun j => H2 (61 * i + j))) → RM w w' r' x V (recL L n V0) (recN n) S hs len t := by
    intro H2 n2 e2 e3 hr
    rw [e2]
    have ga : agO 33 42 w (wst (wst w 36 (arO 244 H2)) 33 (mdO n2 hs len sp rv rs oa)) := (agO.wst _ (by omega)).trans (agO.wst _ (by omega))
    have c2 : ∀ {k : Nat} {e : av_E}, k ≠ 33 → k ≠ 36 → w.2.2 k = e → (wst (wst w 36 (arO 244 H2)) 33 (mdO n2 hs len sp rv rs oa)).2.2 k = e := fun h1 h2 h3 => (wst_ne h1).trans ((wst_ne h2).trans h3)
    rw [← e3]
    exact ⟨e1, ga, g, ke, a0, ⟨sp, rv, rs, oa, wst_self⟩, ⟨c2 (by decide) (by decide) a2.1, a2.2⟩, c2 (by decide) (by decide) a3, ⟨H2, (wst_ne (by decide)).trans wst_self, hr⟩, ⟨Sn, c2 (by decide) (by decide) a6, a7⟩, ⟨so, c2 (by decide) (by decide) a8⟩, ⟨be, c2 (by decide) (by decide) a9⟩, ⟨hd, c2 (by decide) (by decide) b1⟩, ⟨tm, c2 (by decide) (by decide) b2, b3⟩⟩
  by_cases h4 : n = 4
  · refine fin _ _ (q2 h4) (by unfold recN; rw [if_neg (by omega)]; rfl) (fun i hi => ?_)
    unfold recL
    rw [if_neg (by omega)]
    by_cases h3 : i < 3
    · show gV (if i < 3 then L (i + 1) else V0) _
      rw [if_pos h3]
      refine gV_congr (hL (i + 1) (by omega)) (fun j hj => ?_) (a5 (i + 1) (by omega))
      show H (61 * (i + 1) + j) = rgF (61 * 3) 61 (keF 3 ke) (preF 183 (shH H) H) (61 * i + j)
      rw [rgF_out (by omega), preF_lt (by omega)]
      unfold shH
      congr 1
      omega
    · show gV (if i < 3 then L (i + 1) else V0) _
      rw [if_neg h3]
      refine gV_congr hk (fun j hj => ?_) hke
      show ke j = rgF (61 * 3) 61 (keF 3 ke) (preF 183 (shH H) H) (61 * i + j)
      rw [rgF_in (by omega)]
      unfold keF
      congr 1
      omega
  · refine fin _ _ (q1 h4) (by unfold recN; rw [if_pos (by omega)]) (fun i hi => ?_)
    unfold recL
    rw [if_pos (by omega)]
    by_cases h3 : (i : Int) = n
    · show gV (if (i : Int) = n then V0 else L i) _
      rw [if_pos h3]
      refine gV_congr hk (fun j hj => ?_) hke
      show ke j = rgF (61 * n) 61 (keF n ke) H (61 * i + j)
      rw [rgF_in (by omega)]
      unfold keF
      congr 1
      omega
    · show gV (if (i : Int) = n then V0 else L i) _
      rw [if_neg h3]
      refine gV_congr (hL i (by omega)) (fun j hj => ?_) (a5 i (by omega))
      show H (61 * i + j) = rgF (61 * n) 61 (keF n ke) H (61 * i + j)
      rw [rgF_out (by omega)]
