/-! both sides, call by call -/
theorem CLS_hag {w w2 : av_W} {q : Nat} {n : Int} {L : Nat → CV} (h : HsP w q n L) (g : agO 33 42 w w2) : HsP w2 q n L := by
  obtain ⟨h14, ⟨F, h15, hF⟩, hc⟩ := h
  exact ⟨(g.2 14 (by omega)).trans h14, ⟨F, (g.2 15 (by omega)).trans h15, hF⟩, fun j hj => (hc j hj).ag g (by omega)⟩
theorem CLS_ag {w w2 : av_W} {V : CV} {L : Nat → CV} {n : Int} {S : CV} {hs len : Int} {t : Nat → Int} (h : CLS w V L n S hs len t) (g : agO 33 42 w w2) : CLS w2 V L n S hs len t := by
  obtain ⟨a0, a1, a2, ⟨f3, g3, a3⟩, ⟨f4, a4⟩, ⟨f5, g5, a5⟩, ⟨f6, a6⟩, ⟨f7, a7⟩, a8, ⟨f9, a9⟩⟩ := h
  exact ⟨by rw [g.1]; exact a0, (g.2 0 (by omega)).trans a1, a2.ag g (by omega), ⟨_, _, a3.ag g (by omega) (by omega) (by omega)⟩, ⟨_, a4.ag g (by omega)⟩, ⟨_, _, a5.ag g (by omega) (by omega) (by omega)⟩, ⟨_, (g.2 13 (by omega)).trans a6⟩, ⟨_, CLS_hag a7 g⟩, a8.ag g (by omega), ⟨_, a9.ag g (by omega) (by omega)⟩⟩
theorem REFG_ag {w w2 : av_W} {g ke : Nat → Int} {V : CV} {L : Nat → CV} {n : Int} {S : CV} {hs len : Int} {t : Nat → Int} (h : REFG w g ke V L n S hs len t) (q : agO 0 33 w w2) : REFG w2 g ke V L n S hs len t := by
  obtain ⟨a0, ⟨sp, rv, rs, oa, a1⟩, ⟨a2, a2b⟩, a3, ⟨H, a4, a5⟩, ⟨Sn, a6, a7⟩, ⟨so, a8⟩, ⟨be, a9⟩, ⟨hd, b1⟩, ⟨tm, b2, b3⟩⟩ := h
  have c : ∀ {k : Nat} {e : av_E}, 33 ≤ k → w.2.2 k = e → w2.2.2 k = e := fun hk he => (q.2 _ (Or.inr hk)).trans he
  exact ⟨by rw [q.1]; exact a0, ⟨sp, rv, rs, oa, c (by decide) a1⟩, ⟨c (by decide) a2, a2b⟩, c (by decide) a3, ⟨H, c (by decide) a4, a5⟩, ⟨Sn, c (by decide) a6, a7⟩, ⟨so, c (by decide) a8⟩, ⟨be, c (by decide) a9⟩, ⟨hd, c (by decide) b1⟩, ⟨tm, c (by decide) b2, b3⟩⟩
theorem REFS_ag {w w2 : av_W} {V : CV} {L : Nat → CV} {n : Int} {S : CV} {hs len : Int} {t : Nat → Int} (h : REFS w V L n S hs len t) (q : agO 0 33 w w2) : REFS w2 V L n S hs len t := by
  obtain ⟨g, ke, h⟩ := h
  exact ⟨g, ke, REFG_ag h q⟩
theorem REFS_e {w : av_W} {U : CV} {V : CV} {L : Nat → CV} {n : Int} {S : CV} {hs len : Int} {t : Nat → Int} (hk : U.1 ≤ 4 ∧ U.2.1 ≤ 6) (e : CVe V U) (h : REFS w U L n S hs len t) : REFS w V L n S hs len t := by
  obtain ⟨g, ke, a0, a1, ⟨a2, a2b⟩, a3⟩ := h
  exact ⟨g, ke, a0, a1, ⟨a2, gV_e hk e.symm a2b⟩, a3⟩
def JI (V : CV) (L : Nat → CV) (n : Int) (S : CV) (hs len : Int) (t : Nat → Int) : Prop := KW V ∧ (0 ≤ n ∧ n ≤ 4) ∧ (∀ i : Nat, (i : Int) < n → KW (L i)) ∧ (hs = 0 ∨ hs = 1) ∧ (hs = 1 → KW S) ∧ CR t ∧ (0 ≤ len ∧ len ≤ 80)
def JW (sc : av_E) (w : av_W) : Prop := w.1 = 42 ∧ w.2.2 av_scr = sc ∧ ∃ V L n S hs len t, CLS w V L n S hs len t ∧ REFS w V L n S hs len t ∧ JI V L n S hs len t
def JC (M4 M5 : av_M) (as : List Value) (sc : av_E) (w : av_W) : Prop := cl M4 (.ref 0 :: as) w (fun r1 w1 => agO 0 33 w w1 ∧ ∃ x, r1 = some (.int (iN x)) ∧ cl M5 (.ref 33 :: as) w1 (fun r2 w2 => r2 = some (.int (iN x)) ∧ agO 33 42 w1 w2 ∧ JW sc w2))
theorem KW_b {V : CV} (h : KW V) : V.1 ≤ 4 ∧ V.2.1 ≤ 6 := ⟨h.1.1.1.2, h.1.1.2.1.2⟩
theorem J_fin {w w1 w2 : av_W} {r1 r2 : Option Value} {x : Int} {sc : av_E} {V : CV} {L : Nat → CV} {n : Int} {S : CV} {hs len : Int} {t : Nat → Int} (h1 : w.1 = 42) (h2 : w.2.2 av_scr = sc) (a : RC w w1 r1 x V L n S hs len t) (b : RM w1 w2 r2 x V L n S hs len t) (hI : JI V L n S hs len t) : r2 = some (.int (iN x)) ∧ agO 33 42 w1 w2 ∧ JW sc w2 := by
  obtain ⟨a1, a2, a3⟩ := a
  obtain ⟨b1, b2, b3⟩ := b
  refine ⟨b1, b2, by rw [b2.1, a2.1]; exact h1, ?_, V, L, n, S, hs, len, t, CLS_ag a3 b2, b3, hI⟩
  rw [b2.2 av_scr (Or.inr (by decide)), a2.2 av_scr (Or.inr (by decide))]
  exact h2
theorem JI_rec {V : CV} {L : Nat → CV} {n : Int} {S : CV} {hs len : Int} {t : Nat → Int} {V2 : CV} (h : JI V L n S hs len t) (k : KW V2) : JI V2 (recL L n V) (recN n) S hs len t := by
  obtain ⟨h1, h2, h3, h4, h5, h6, h7⟩ := h
  refine ⟨k, ?_, ?_, h4, h5, h6, h7⟩
  · unfold recN
    split <;> omega
  · intro i hi
    unfold recN at hi
    unfold recL
    by_cases q : n < 4
    · rw [if_pos q] at hi ⊢
      show KW (if (i : Int) = n then V else L i)
      split
      · exact h1
      · exact h3 i (by omega)
    · rw [if_neg q] at hi ⊢
      show KW (if i < 3 then L (i + 1) else V)
      split
      · exact h3 (i + 1) (by omega)
      · exact h1
theorem RA_r {w w' : av_W} {r' : Option Value} {q : Int × Option CV} {V : CV} {L : Nat → CV} {n : Int} {S : CV} {hs len : Int} {t : Nat → Int} (h : RA w w' r' q V L n S hs len t) : r' = some (.int (iN q.1)) ∧ agO 0 33 w w' := by
  obtain ⟨x, V2⟩ := q
  cases V2 with
  | none => exact ⟨h.1, h.2.1⟩
  | some V2 => exact ⟨h.1, h.2.1⟩
theorem JC_tell {M4 M5 : av_M} {as : List Value} {w : av_W} {x : Int} {sc : av_E} {V : CV} {L : Nat → CV} {n : Int} {S : CV} {hs len : Int} {t : Nat → Int} {V2 : CV} {L2 : Nat → CV} {n2 : Int} {S2 : CV} {hs2 len2 : Int} {t2 : Nat → Int} (h1 : w.1 = 42) (h2 : w.2.2 av_scr = sc) (hR : REFS w V L n S hs len t) (hI : JI V2 L2 n2 S2 hs2 len2 t2) (c : cl M4 (.ref 0 :: as) w (fun r' w' => RC w w' r' x V2 L2 n2 S2 hs2 len2 t2)) (m : ∀ w1 g ke, REFG w1 g ke V L n S hs len t → cl M5 (.ref 33 :: as) w1 (fun r' w' => RM w1 w' r' x V2 L2 n2 S2 hs2 len2 t2)) : JC M4 M5 as sc w := by
  refine c.imp (fun r1 w1 q => ?_)
  obtain ⟨g, ke, hG⟩ := REFS_ag hR q.2.1
  exact ⟨q.2.1, x, q.1, (m w1 g ke hG).imp (fun r2 w2 q2 => J_fin h1 h2 q q2 hI)⟩
theorem JA_fin {w w1 w2 : av_W} {r1 r2 : Option Value} {o : Int × Option CV} {sc : av_E} {V : CV} {L : Nat → CV} {n : Int} {S : CV} {hs len : Int} {t : Nat → Int} (h1 : w.1 = 42) (h2 : w.2.2 av_scr = sc) (a : RA w w1 r1 o V L n S hs len t) (b : MA w1 w2 r2 o V L n S hs len t) (hI : JI V L n S hs len t) (ho : ∀ V2, o.2 = some V2 → KW V2) : r2 = some (.int (iN o.1)) ∧ agO 33 42 w1 w2 ∧ JW sc w2 := by
  obtain ⟨x, V2⟩ := o
  cases V2 with
  | none => exact J_fin h1 h2 a b hI
  | some V2 => exact J_fin h1 h2 a b (JI_rec hI (ho V2 rfl))
theorem JC_act {M4 M5 : av_M} {as : List Value} {w : av_W} {o : Int × Option CV} {sc : av_E} {V : CV} {L : Nat → CV} {n : Int} {S : CV} {hs len : Int} {t : Nat → Int} (h1 : w.1 = 42) (h2 : w.2.2 av_scr = sc) (hR : REFS w V L n S hs len t) (hI : JI V L n S hs len t) (ho : ∀ V2, o.2 = some V2 → KW V2) (c : cl M4 (.ref 0 :: as) w (fun r' w' => RA w w' r' o V L n S hs len t)) (m : ∀ w1 g ke, REFG w1 g ke V L n S hs len t → cl M5 (.ref 33 :: as) w1 (fun r' w' => MA w1 w' r' o V L n S hs len t)) : JC M4 M5 as sc w := by
  refine c.imp (fun r1 w1 q => ?_)
  have qa := RA_r q
  obtain ⟨g, ke, hG⟩ := REFS_ag hR qa.2
  exact ⟨qa.2, o.1, qa.1, (m w1 g ke hG).imp (fun r2 w2 q2 => JA_fin h1 h2 q q2 hI ho)⟩
theorem bs_ex {v p sh ln : Int} (hv : 2 ≤ v ∧ v ≤ 4) (hp : 2 ≤ p ∧ p ≤ 6) : ∃ b, bestO v p sh ln b := ⟨_, (bs_best (g := fun j => if j = 0 then v else p) (so := fun _ => 0) rfl rfl hv hp).2⟩

theorem j_colour {sc : av_E} {w : av_W} (J : JW sc w) (a : Int) (ha : RG a) (b : Int) (hb : RG b) (k : Int) (hk : RG k) : JC MX4_colour MX5_colour [.int (iN a), .int (iN b), .int (iN k)] sc w := by
  obtain ⟨h1, h2, ⟨v, p, sh, ln, pr, gd, co, c, s⟩, L, n, S, hs, len, t, hC, hR, hI⟩ := J
  obtain ⟨hW, hn, hL0, hhs, hSW, hCR, hlen⟩ := id hI
  have hV := hW.1
  have hv : 2 ≤ v ∧ v ≤ 4 := hV.1.1
  have hp : 2 ≤ p ∧ p ≤ 6 := hV.1.2.1
  have hL : ∀ i : Nat, (i : Int) < n → (L i).1 ≤ 4 ∧ (L i).2.1 ≤ 6 := fun i hi => KW_b (hL0 i hi)
  exact JC_act h1 h2 hR hI (ko_colour hW a b k) (c_colour w v p sh ln pr gd co c s L n S hs len t hC hV hn a ha b hb k hk) (fun w1 g ke hG => m_colour w1 v p sh ln pr gd co c s L n S hs len t g ke hG hV hn hL a ha b hb k hk)

theorem j_addView {sc : av_E} {w : av_W} (J : JW sc w) : JC MX4_addView MX5_addView [] sc w := by
  obtain ⟨h1, h2, ⟨v, p, sh, ln, pr, gd, co, c, s⟩, L, n, S, hs, len, t, hC, hR, hI⟩ := J
  obtain ⟨hW, hn, hL0, hhs, hSW, hCR, hlen⟩ := id hI
  have hV := hW.1
  have hv : 2 ≤ v ∧ v ≤ 4 := hV.1.1
  have hp : 2 ≤ p ∧ p ≤ 6 := hV.1.2.1
  have hL : ∀ i : Nat, (i : Int) < n → (L i).1 ≤ 4 ∧ (L i).2.1 ≤ 6 := fun i hi => KW_b (hL0 i hi)
  exact JC_act h1 h2 hR hI (ko_addView hW) (c_addView w v p sh ln pr gd co c s L n S hs len t hC hV hn) (fun w1 g ke hG => m_addView w1 v p sh ln pr gd co c s L n S hs len t g ke hG hV hn hL)

theorem j_removeView {sc : av_E} {w : av_W} (J : JW sc w) (a : Int) (ha : RG a) : JC MX4_removeView MX5_removeView [.int (iN a)] sc w := by
  obtain ⟨h1, h2, ⟨v, p, sh, ln, pr, gd, co, c, s⟩, L, n, S, hs, len, t, hC, hR, hI⟩ := J
  obtain ⟨hW, hn, hL0, hhs, hSW, hCR, hlen⟩ := id hI
  have hV := hW.1
  have hv : 2 ≤ v ∧ v ≤ 4 := hV.1.1
  have hp : 2 ≤ p ∧ p ≤ 6 := hV.1.2.1
  have hL : ∀ i : Nat, (i : Int) < n → (L i).1 ≤ 4 ∧ (L i).2.1 ≤ 6 := fun i hi => KW_b (hL0 i hi)
  exact JC_act h1 h2 hR hI (ko_removeView hW a) (c_removeView w v p sh ln pr gd co c s L n S hs len t hC hV hn a ha) (fun w1 g ke hG => m_removeView w1 v p sh ln pr gd co c s L n S hs len t g ke hG hV hn hL a ha)

theorem j_swap {sc : av_E} {w : av_W} (J : JW sc w) (a : Int) (ha : RG a) (b : Int) (hb : RG b) : JC MX4_swap MX5_swap [.int (iN a), .int (iN b)] sc w := by
  obtain ⟨h1, h2, ⟨v, p, sh, ln, pr, gd, co, c, s⟩, L, n, S, hs, len, t, hC, hR, hI⟩ := J
  obtain ⟨hW, hn, hL0, hhs, hSW, hCR, hlen⟩ := id hI
  have hV := hW.1
  have hv : 2 ≤ v ∧ v ≤ 4 := hV.1.1
  have hp : 2 ≤ p ∧ p ≤ 6 := hV.1.2.1
  have hL : ∀ i : Nat, (i : Int) < n → (L i).1 ≤ 4 ∧ (L i).2.1 ≤ 6 := fun i hi => KW_b (hL0 i hi)
  exact JC_act h1 h2 hR hI (ko_swap hW a b) (c_swap w v p sh ln pr gd co c s L n S hs len t hC hV hn a ha b hb) (fun w1 g ke hG => m_swap w1 v p sh ln pr gd co c s L n S hs len t g ke hG hV hn hL a b ha hb)

theorem j_setPitch {sc : av_E} {w : av_W} (J : JW sc w) (a : Int) (ha : RG a) : JC MX4_setPitch MX5_setPitch [.int (iN a)] sc w := by
  obtain ⟨h1, h2, ⟨v, p, sh, ln, pr, gd, co, c, s⟩, L, n, S, hs, len, t, hC, hR, hI⟩ := J
  obtain ⟨hW, hn, hL0, hhs, hSW, hCR, hlen⟩ := id hI
  have hV := hW.1
  have hv : 2 ≤ v ∧ v ≤ 4 := hV.1.1
  have hp : 2 ≤ p ∧ p ≤ 6 := hV.1.2.1
  have hL : ∀ i : Nat, (i : Int) < n → (L i).1 ≤ 4 ∧ (L i).2.1 ≤ 6 := fun i hi => KW_b (hL0 i hi)
  exact JC_act h1 h2 hR hI (ko_setPitch hW a) (c_setPitch w v p sh ln pr gd co c s L n S hs len t hC hV hn a ha) (fun w1 g ke hG => m_setPitch w1 v p sh ln pr gd co c s L n S hs len t g ke hG hV hn hL a ha)

theorem j_slice {sc : av_E} {w : av_W} (J : JW sc w) (a : Int) (ha : RG a) (b : Int) (hb : RG b) : JC MX4_slice MX5_slice [.int (iN a), .int (iN b)] sc w := by
  obtain ⟨h1, h2, ⟨v, p, sh, ln, pr, gd, co, c, s⟩, L, n, S, hs, len, t, hC, hR, hI⟩ := J
  obtain ⟨hW, hn, hL0, hhs, hSW, hCR, hlen⟩ := id hI
  have hV := hW.1
  have hv : 2 ≤ v ∧ v ≤ 4 := hV.1.1
  have hp : 2 ≤ p ∧ p ≤ 6 := hV.1.2.1
  have hL : ∀ i : Nat, (i : Int) < n → (L i).1 ≤ 4 ∧ (L i).2.1 ≤ 6 := fun i hi => KW_b (hL0 i hi)
  exact JC_act h1 h2 hR hI (ko_slice hW a b) (c_slice w v p sh ln pr gd co c s L n S hs len t hC hV hn a ha b hb) (fun w1 g ke hG => m_slice w1 v p sh ln pr gd co c s L n S hs len t g ke hG hV hn hL a ha b hb)

theorem j_setShift {sc : av_E} {w : av_W} (J : JW sc w) (a : Int) (ha : RG a) : JC MX4_setShift MX5_setShift [.int (iN a)] sc w := by
  obtain ⟨h1, h2, ⟨v, p, sh, ln, pr, gd, co, c, s⟩, L, n, S, hs, len, t, hC, hR, hI⟩ := J
  obtain ⟨hW, hn, hL0, hhs, hSW, hCR, hlen⟩ := id hI
  have hV := hW.1
  have hv : 2 ≤ v ∧ v ≤ 4 := hV.1.1
  have hp : 2 ≤ p ∧ p ≤ 6 := hV.1.2.1
  have hL : ∀ i : Nat, (i : Int) < n → (L i).1 ≤ 4 ∧ (L i).2.1 ≤ 6 := fun i hi => KW_b (hL0 i hi)
  exact JC_act h1 h2 hR hI (ko_setShift hW a) (c_setShift w v p sh ln pr gd co c s L n S hs len t hC hV hn a ha) (fun w1 g ke hG => m_setShift w1 v p sh ln pr gd co c s L n S hs len t g ke hG hV hn hL a ha)

theorem j_setLean {sc : av_E} {w : av_W} (J : JW sc w) (a : Int) (ha : RG a) : JC MX4_setLean MX5_setLean [.int (iN a)] sc w := by
  obtain ⟨h1, h2, ⟨v, p, sh, ln, pr, gd, co, c, s⟩, L, n, S, hs, len, t, hC, hR, hI⟩ := J
  obtain ⟨hW, hn, hL0, hhs, hSW, hCR, hlen⟩ := id hI
  have hV := hW.1
  have hv : 2 ≤ v ∧ v ≤ 4 := hV.1.1
  have hp : 2 ≤ p ∧ p ≤ 6 := hV.1.2.1
  have hL : ∀ i : Nat, (i : Int) < n → (L i).1 ≤ 4 ∧ (L i).2.1 ≤ 6 := fun i hi => KW_b (hL0 i hi)
  exact JC_act h1 h2 hR hI (ko_setLean hW a) (c_setLean w v p sh ln pr gd co c s L n S hs len t hC hV hn a ha) (fun w1 g ke hG => m_setLean w1 v p sh ln pr gd co c s L n S hs len t g ke hG hV hn hL a ha)

theorem j_press {sc : av_E} {w : av_W} (J : JW sc w) (a : Int) (ha : RG a) : JC MX4_press MX5_press [.int (iN a)] sc w := by
  obtain ⟨h1, h2, ⟨v, p, sh, ln, pr, gd, co, c, s⟩, L, n, S, hs, len, t, hC, hR, hI⟩ := J
  obtain ⟨hW, hn, hL0, hhs, hSW, hCR, hlen⟩ := id hI
  have hV := hW.1
  have hv : 2 ≤ v ∧ v ≤ 4 := hV.1.1
  have hp : 2 ≤ p ∧ p ≤ 6 := hV.1.2.1
  have hL : ∀ i : Nat, (i : Int) < n → (L i).1 ≤ 4 ∧ (L i).2.1 ≤ 6 := fun i hi => KW_b (hL0 i hi)
  exact JC_act h1 h2 hR hI (ko_press hW a) (c_press w v p sh ln pr gd co c s L n S hs len t hC hV hn a ha) (fun w1 g ke hG => m_press w1 v p sh ln pr gd co c s L n S hs len t g ke hG hW hn hL a ha)

theorem j_colourOf {sc : av_E} {w : av_W} (J : JW sc w) (a : Int) (ha : RG a) (b : Int) (hb : RG b) : JC MX4_colourOf MX5_colourOf [.int (iN a), .int (iN b)] sc w := by
  obtain ⟨h1, h2, ⟨v, p, sh, ln, pr, gd, co, c, s⟩, L, n, S, hs, len, t, hC, hR, hI⟩ := J
  obtain ⟨hW, hn, hL0, hhs, hSW, hCR, hlen⟩ := id hI
  have hV := hW.1
  have hv : 2 ≤ v ∧ v ≤ 4 := hV.1.1
  have hp : 2 ≤ p ∧ p ≤ 6 := hV.1.2.1
  have hL : ∀ i : Nat, (i : Int) < n → (L i).1 ≤ 4 ∧ (L i).2.1 ≤ 6 := fun i hi => KW_b (hL0 i hi)
  exact JC_tell h1 h2 hR hI (c_colourOf w v p sh ln pr gd co c s L n S hs len t hC hV hn a ha b hb) (fun w1 g ke hG => m_colourOf w1 v p sh ln pr gd co c s L n S hs len t g ke hG hW a ha b hb)

theorem j_viewOf {sc : av_E} {w : av_W} (J : JW sc w) (a : Int) (ha : RG a) : JC MX4_viewOf MX5_viewOf [.int (iN a)] sc w := by
  obtain ⟨h1, h2, ⟨v, p, sh, ln, pr, gd, co, c, s⟩, L, n, S, hs, len, t, hC, hR, hI⟩ := J
  obtain ⟨hW, hn, hL0, hhs, hSW, hCR, hlen⟩ := id hI
  have hV := hW.1
  have hv : 2 ≤ v ∧ v ≤ 4 := hV.1.1
  have hp : 2 ≤ p ∧ p ≤ 6 := hV.1.2.1
  have hL : ∀ i : Nat, (i : Int) < n → (L i).1 ≤ 4 ∧ (L i).2.1 ≤ 6 := fun i hi => KW_b (hL0 i hi)
  exact JC_tell h1 h2 hR hI (c_viewOf w v p sh ln pr gd co c s L n S hs len t hC hV hn a ha) (fun w1 g ke hG => m_viewOf w1 v p sh ln pr gd co c s L n S hs len t g ke hG hW a ha)

theorem j_behind {sc : av_E} {w : av_W} (J : JW sc w) (a : Int) (ha : RG a) (b : Int) (hb : RG b) (k : Int) (hk : RG k) : JC MX4_behind MX5_behind [.int (iN a), .int (iN b), .int (iN k)] sc w := by
  obtain ⟨h1, h2, ⟨v, p, sh, ln, pr, gd, co, c, s⟩, L, n, S, hs, len, t, hC, hR, hI⟩ := J
  obtain ⟨hW, hn, hL0, hhs, hSW, hCR, hlen⟩ := id hI
  have hV := hW.1
  have hv : 2 ≤ v ∧ v ≤ 4 := hV.1.1
  have hp : 2 ≤ p ∧ p ≤ 6 := hV.1.2.1
  have hL : ∀ i : Nat, (i : Int) < n → (L i).1 ≤ 4 ∧ (L i).2.1 ≤ 6 := fun i hi => KW_b (hL0 i hi)
  exact JC_tell h1 h2 hR hI (c_behind w v p sh ln pr gd co c s L n S hs len t hC hV hn a ha b hb k hk) (fun w1 g ke hG => m_behind w1 v p sh ln pr gd co c s L n S hs len t g ke hG hW a ha b hb k hk)

theorem j_seen {sc : av_E} {w : av_W} (J : JW sc w) (a : Int) (ha : RG a) (b : Int) (hb : RG b) (k : Int) (hk : RG k) : JC MX4_seen MX5_seen [.int (iN a), .int (iN b), .int (iN k)] sc w := by
  obtain ⟨h1, h2, ⟨v, p, sh, ln, pr, gd, co, c, s⟩, L, n, S, hs, len, t, hC, hR, hI⟩ := J
  obtain ⟨hW, hn, hL0, hhs, hSW, hCR, hlen⟩ := id hI
  have hV := hW.1
  have hv : 2 ≤ v ∧ v ≤ 4 := hV.1.1
  have hp : 2 ≤ p ∧ p ≤ 6 := hV.1.2.1
  have hL : ∀ i : Nat, (i : Int) < n → (L i).1 ≤ 4 ∧ (L i).2.1 ≤ 6 := fun i hi => KW_b (hL0 i hi)
  exact JC_tell h1 h2 hR hI (c_seen w v p sh ln pr gd co c s L n S hs len t hC hV hn a ha b hb k hk) (fun w1 g ke hG => m_seen w1 v p sh ln pr gd co c s L n S hs len t g ke hG hW a ha b hb k hk)

theorem j_at {sc : av_E} {w : av_W} (J : JW sc w) (a : Int) (ha : RG a) (k : Int) (hk : RG k) : JC MX4_at MX5_at [.int (iN a), .int (iN k)] sc w := by
  obtain ⟨h1, h2, ⟨v, p, sh, ln, pr, gd, co, c, s⟩, L, n, S, hs, len, t, hC, hR, hI⟩ := J
  obtain ⟨hW, hn, hL0, hhs, hSW, hCR, hlen⟩ := id hI
  have hV := hW.1
  have hv : 2 ≤ v ∧ v ≤ 4 := hV.1.1
  have hp : 2 ≤ p ∧ p ≤ 6 := hV.1.2.1
  have hL : ∀ i : Nat, (i : Int) < n → (L i).1 ≤ 4 ∧ (L i).2.1 ≤ 6 := fun i hi => KW_b (hL0 i hi)
  exact JC_tell h1 h2 hR hI (c_at w v p sh ln pr gd co c s L n S hs len t hC hV hn a ha k hk) (fun w1 g ke hG => m_at w1 v p sh ln pr gd co c s L n S hs len t g ke hG hW a ha k hk)

theorem j_view {sc : av_E} {w : av_W} (J : JW sc w) (a : Int) (ha : RG a) (k : Int) (hk : RG k) : JC MX4_view MX5_view [.int (iN a), .int (iN k)] sc w := by
  obtain ⟨h1, h2, ⟨v, p, sh, ln, pr, gd, co, c, s⟩, L, n, S, hs, len, t, hC, hR, hI⟩ := J
  obtain ⟨hW, hn, hL0, hhs, hSW, hCR, hlen⟩ := id hI
  have hV := hW.1
  have hv : 2 ≤ v ∧ v ≤ 4 := hV.1.1
  have hp : 2 ≤ p ∧ p ≤ 6 := hV.1.2.1
  have hL : ∀ i : Nat, (i : Int) < n → (L i).1 ≤ 4 ∧ (L i).2.1 ≤ 6 := fun i hi => KW_b (hL0 i hi)
  exact JC_tell h1 h2 hR hI (c_view w v p sh ln pr gd co c s L n S hs len t hC hV hn a ha k hk) (fun w1 g ke hG => m_view w1 v p sh ln pr gd co c s L n S hs len t g ke hG hW a ha k hk)

theorem j_count {sc : av_E} {w : av_W} (J : JW sc w) (k : Int) (hk : RG k) : JC MX4_count MX5_count [.int (iN k)] sc w := by
  obtain ⟨h1, h2, ⟨v, p, sh, ln, pr, gd, co, c, s⟩, L, n, S, hs, len, t, hC, hR, hI⟩ := J
  obtain ⟨hW, hn, hL0, hhs, hSW, hCR, hlen⟩ := id hI
  have hV := hW.1
  have hv : 2 ≤ v ∧ v ≤ 4 := hV.1.1
  have hp : 2 ≤ p ∧ p ≤ 6 := hV.1.2.1
  have hL : ∀ i : Nat, (i : Int) < n → (L i).1 ≤ 4 ∧ (L i).2.1 ≤ 6 := fun i hi => KW_b (hL0 i hi)
  exact JC_tell h1 h2 hR hI (c_count w v p sh ln pr gd co c s L n S hs len t hC hV hn k hk) (fun w1 g ke hG => m_count w1 v p sh ln pr gd co c s L n S hs len t g ke hG hW k hk)

theorem j_ifSlice {sc : av_E} {w : av_W} (J : JW sc w) (a : Int) (ha : RG a) (b : Int) (hb : RG b) : JC MX4_ifSlice MX5_ifSlice [.int (iN a), .int (iN b)] sc w := by
  obtain ⟨h1, h2, ⟨v, p, sh, ln, pr, gd, co, c, s⟩, L, n, S, hs, len, t, hC, hR, hI⟩ := J
  obtain ⟨hW, hn, hL0, hhs, hSW, hCR, hlen⟩ := id hI
  have hV := hW.1
  have hv : 2 ≤ v ∧ v ≤ 4 := hV.1.1
  have hp : 2 ≤ p ∧ p ≤ 6 := hV.1.2.1
  have hL : ∀ i : Nat, (i : Int) < n → (L i).1 ≤ 4 ∧ (L i).2.1 ≤ 6 := fun i hi => KW_b (hL0 i hi)
  exact JC_tell h1 h2 hR hI (c_ifSlice w v p sh ln pr gd co c s L n S hs len t hC hV hn a b ha hb) (fun w1 g ke hG => m_ifSlice w1 v p sh ln pr gd co c s L n S hs len t g ke hG hW a b ha hb)

theorem j_bestShift {sc : av_E} {w : av_W} (J : JW sc w) : JC MX4_bestShift MX5_bestShift [] sc w := by
  obtain ⟨h1, h2, ⟨v, p, sh, ln, pr, gd, co, c, s⟩, L, n, S, hs, len, t, hC, hR, hI⟩ := J
  obtain ⟨hW, hn, hL0, hhs, hSW, hCR, hlen⟩ := id hI
  have hV := hW.1
  have hv : 2 ≤ v ∧ v ≤ 4 := hV.1.1
  have hp : 2 ≤ p ∧ p ≤ 6 := hV.1.2.1
  have hL : ∀ i : Nat, (i : Int) < n → (L i).1 ≤ 4 ∧ (L i).2.1 ≤ 6 := fun i hi => KW_b (hL0 i hi)
  exact JC_tell h1 h2 hR hI (c_bestShift w v p sh ln pr gd co c s L n S hs len t hC hV hn) (fun w1 g ke hG => m_bestShift w1 v p sh ln pr gd co c s L n S hs len t g ke hG hW)

theorem j_clearText {sc : av_E} {w : av_W} (J : JW sc w) : JC MX4_clearText MX5_clearText [] sc w := by
  obtain ⟨h1, h2, ⟨v, p, sh, ln, pr, gd, co, c, s⟩, L, n, S, hs, len, t, hC, hR, hI⟩ := J
  obtain ⟨hW, hn, hL0, hhs, hSW, hCR, hlen⟩ := id hI
  have hV := hW.1
  have hv : 2 ≤ v ∧ v ≤ 4 := hV.1.1
  have hp : 2 ≤ p ∧ p ≤ 6 := hV.1.2.1
  have hL : ∀ i : Nat, (i : Int) < n → (L i).1 ≤ 4 ∧ (L i).2.1 ≤ 6 := fun i hi => KW_b (hL0 i hi)
  refine JC_tell h1 h2 hR (⟨hW, hn, hL0, hhs, hSW, hCR, by omega⟩ : JI (v, p, sh, ln, pr, gd, co, c, s) L n S hs 0 t) (c_clearText w v p sh ln pr gd co c s L n S hs len t hC hV hn hCR hlen) (fun w1 g ke hG => m_clearText w1 v p sh ln pr gd co c s L n S hs len t g ke hG hV hn hL)

theorem j_keep {sc : av_E} {w : av_W} (J : JW sc w) : JC MX4_keep MX5_keep [] sc w := by
  obtain ⟨h1, h2, ⟨v, p, sh, ln, pr, gd, co, c, s⟩, L, n, S, hs, len, t, hC, hR, hI⟩ := J
  obtain ⟨hW, hn, hL0, hhs, hSW, hCR, hlen⟩ := id hI
  have hV := hW.1
  have hv : 2 ≤ v ∧ v ≤ 4 := hV.1.1
  have hp : 2 ≤ p ∧ p ≤ 6 := hV.1.2.1
  have hL : ∀ i : Nat, (i : Int) < n → (L i).1 ≤ 4 ∧ (L i).2.1 ≤ 6 := fun i hi => KW_b (hL0 i hi)
  refine JC_tell h1 h2 hR (⟨hW, hn, hL0, Or.inr rfl, fun _ => hW, hCR, hlen⟩ : JI (v, p, sh, ln, pr, gd, co, c, s) L n (v, p, sh, ln, pr, gd, co, c, s) 1 len t) (c_keep w v p sh ln pr gd co c s L n S hs len t hC hV hn) (fun w1 g ke hG => m_keep w1 v p sh ln pr gd co c s L n S hs len t g ke hG hV hn hL)

theorem j_bestOrder {sc : av_E} {w : av_W} (J : JW sc w) (a : Int) (ha : RG a) : JC MX4_bestOrder MX5_bestOrder [.int (iN a)] sc w := by
  obtain ⟨h1, h2, ⟨v, p, sh, ln, pr, gd, co, c, s⟩, L, n, S, hs, len, t, hC, hR, hI⟩ := J
  obtain ⟨hW, hn, hL0, hhs, hSW, hCR, hlen⟩ := id hI
  have hV := hW.1
  have hv : 2 ≤ v ∧ v ≤ 4 := hV.1.1
  have hp : 2 ≤ p ∧ p ≤ 6 := hV.1.2.1
  have hL : ∀ i : Nat, (i : Int) < n → (L i).1 ≤ 4 ∧ (L i).2.1 ≤ 6 := fun i hi => KW_b (hL0 i hi)
  refine (c_bestOrder w v p sh ln pr gd co c s L n S hs len t hC hV hn a ha).imp (fun r1 w1 q => ?_)
  have hq : ∃ b, bestO v p sh ln b ∧ RC w w1 r1 (if ¬ (0 ≤ a ∧ a ≤ p - 1) then -101 else b a.toNat) (v, p, sh, ln, pr, gd, co, c, s) L n S hs len t := by
    rcases q with ⟨q1, q2⟩ | ⟨q1, b, hb, q2⟩
    · obtain ⟨b, hb⟩ := bs_ex (sh := sh) (ln := ln) hv hp
      refine ⟨b, hb, ?_⟩
      rw [if_pos q1]
      exact q2
    · refine ⟨b, hb, ?_⟩
      rw [if_neg (fun x => x q1)]
      exact q2
  obtain ⟨b, hb, q⟩ := hq
  obtain ⟨g, ke, hG⟩ := REFS_ag hR q.2.1
  exact ⟨q.2.1, _, q.1, (m_bestOrder w1 v p sh ln pr gd co c s L n S hs len t g ke hG hW b hb a ha).imp (fun r2 w2 q2 => J_fin h1 h2 q q2 hI)⟩

theorem j_order {sc : av_E} {w : av_W} (J : JW sc w) : JC MX4_order MX5_order [] sc w := by
  obtain ⟨h1, h2, ⟨v, p, sh, ln, pr, gd, co, c, s⟩, L, n, S, hs, len, t, hC, hR, hI⟩ := J
  obtain ⟨hW, hn, hL0, hhs, hSW, hCR, hlen⟩ := id hI
  have hV := hW.1
  have hv : 2 ≤ v ∧ v ≤ 4 := hV.1.1
  have hp : 2 ≤ p ∧ p ≤ 6 := hV.1.2.1
  have hL : ∀ i : Nat, (i : Int) < n → (L i).1 ≤ 4 ∧ (L i).2.1 ≤ 6 := fun i hi => KW_b (hL0 i hi)
  refine (c_order w v p sh ln pr gd co c s L n S hs len t hC hV hn).imp (fun r1 w1 q => ?_)
  obtain ⟨b, hb, q⟩ := q
  have qa := RA_r q
  obtain ⟨g, ke, hG⟩ := REFS_ag hR qa.2
  exact ⟨qa.2, _, qa.1, (m_order w1 v p sh ln pr gd co c s L n S hs len t g ke hG hW hn hL b hb).imp (fun r2 w2 q2 => JA_fin h1 h2 q q2 hI (ko_order hW hb))⟩

theorem j_type {sc : av_E} {w : av_W} (J : JW sc w) (x : Int) (hx : 0 ≤ x ∧ x ≤ 65535) : JC MX4_type MX5_type [.int (iN x)] sc w := by
  obtain ⟨h1, h2, ⟨v, p, sh, ln, pr, gd, co, c, s⟩, L, n, S, hs, len, t, hC, hR, hI⟩ := J
  obtain ⟨hW, hn, hL0, hhs, hSW, hCR, hlen⟩ := id hI
  have hV := hW.1
  have hv : 2 ≤ v ∧ v ≤ 4 := hV.1.1
  have hp : 2 ≤ p ∧ p ≤ 6 := hV.1.2.1
  have hL : ∀ i : Nat, (i : Int) < n → (L i).1 ≤ 4 ∧ (L i).2.1 ≤ 6 := fun i hi => KW_b (hL0 i hi)
  have cc := c_type w v p sh ln pr gd co c s L n S hs len t hC hV hn hCR hlen x hx
  by_cases q : 80 ≤ len
  · refine JC_tell h1 h2 hR hI (x := -103) (cc.imp (fun r1 w1 u => ?_)) (fun w1 g ke hG => (m_type w1 v p sh ln pr gd co c s L n S hs len t g ke hG hV hn hL hlen x hx).imp (fun r1 w1 u => ?_))
    · rw [if_pos q] at u
      exact u
    · rw [if_pos q] at u
      exact u
  · have hI2 : JI (v, p, sh, ln, pr, gd, co, c, s) L n S hs (len + 1) (updZ t len.toNat (if x ≤ 255 then x else 0)) := ⟨hW, hn, hL0, hhs, hSW, fun j hj => by show 0 ≤ (if j = len.toNat then (if x ≤ 255 then x else 0) else t j) ∧ (if j = len.toNat then (if x ≤ 255 then x else 0) else t j) ≤ 255; split; (split <;> omega); exact hCR j hj, by omega⟩
    refine JC_tell h1 h2 hR hI2 (x := len + 1) (cc.imp (fun r1 w1 u => ?_)) (fun w1 g ke hG => (m_type w1 v p sh ln pr gd co c s L n S hs len t g ke hG hV hn hL hlen x hx).imp (fun r1 w1 u => ?_))
    · rw [if_neg q] at u
      exact u
    · rw [if_neg q] at u
      exact u

theorem j_undo {sc : av_E} {w : av_W} (J : JW sc w) : JC MX4_undo MX5_undo [] sc w := by
  obtain ⟨h1, h2, ⟨v, p, sh, ln, pr, gd, co, c, s⟩, L, n, S, hs, len, t, hC, hR, hI⟩ := J
  obtain ⟨hW, hn, hL0, hhs, hSW, hCR, hlen⟩ := id hI
  have hV := hW.1
  have hv : 2 ≤ v ∧ v ≤ 4 := hV.1.1
  have hp : 2 ≤ p ∧ p ≤ 6 := hV.1.2.1
  have hL : ∀ i : Nat, (i : Int) < n → (L i).1 ≤ 4 ∧ (L i).2.1 ≤ 6 := fun i hi => KW_b (hL0 i hi)
  have cc := c_undo w v p sh ln pr gd co c s L n S hs len t hC hV hn
  by_cases q : n = 0
  · refine JC_tell h1 h2 hR hI (x := -105) (cc.imp (fun r1 w1 u => ?_)) (fun w1 g ke hG => (m_undo w1 v p sh ln pr gd co c s L n S hs len t g ke hG hV hn hL).imp (fun r1 w1 u => ?_))
    · rw [if_pos q] at u
      exact u
    · rw [if_pos q] at u
      exact u
  · refine cc.imp (fun r1 w1 u => ?_)
    rw [if_neg q] at u
    obtain ⟨V2, e, u⟩ := u
    obtain ⟨g, ke, hG⟩ := REFS_ag hR u.2.1
    have kL := hL0 (n - 1).toNat (by omega)
    have hI2 : JI V2 L (n - 1) S hs len t := ⟨KW_e e kL, by omega, fun i hi => hL0 i (by omega), hhs, hSW, hCR, hlen⟩
    refine ⟨u.2.1, _, u.1, (m_undo w1 v p sh ln pr gd co c s L n S hs len t g ke hG hV hn hL).imp (fun r2 w2 q2 => ?_)⟩
    rw [if_neg q] at q2
    exact J_fin h1 h2 u ⟨q2.1, q2.2.1, REFS_e (KW_b kL) e q2.2.2⟩ hI2

theorem j_restore {sc : av_E} {w : av_W} (J : JW sc w) : JC MX4_restore MX5_restore [] sc w := by
  obtain ⟨h1, h2, ⟨v, p, sh, ln, pr, gd, co, c, s⟩, L, n, S, hs, len, t, hC, hR, hI⟩ := J
  obtain ⟨hW, hn, hL0, hhs, hSW, hCR, hlen⟩ := id hI
  have hV := hW.1
  have hv : 2 ≤ v ∧ v ≤ 4 := hV.1.1
  have hp : 2 ≤ p ∧ p ≤ 6 := hV.1.2.1
  have hL : ∀ i : Nat, (i : Int) < n → (L i).1 ≤ 4 ∧ (L i).2.1 ≤ 6 := fun i hi => KW_b (hL0 i hi)
  have cc := c_restore w v p sh ln pr gd co c s L n S hs len t hC hV hn hhs
  by_cases q : hs = 0
  · refine JC_tell h1 h2 hR hI (x := -105) (cc.imp (fun r1 w1 u => ?_)) (fun w1 g ke hG => (m_restore w1 v p sh ln pr gd co c s L n S hs len t g ke hG hV hn hL hhs (fun y => KW_b (hSW y))).imp (fun r1 w1 u => ?_))
    · rw [if_pos q] at u
      exact u
    · rw [if_pos q] at u
      exact u
  · refine cc.imp (fun r1 w1 u => ?_)
    rw [if_neg q] at u
    obtain ⟨V2, e, u⟩ := u
    obtain ⟨g, ke, hG⟩ := REFS_ag hR u.2.1
    have kS := hSW (by omega)
    have hI2 := JI_rec hI (KW_e e kS)
    refine ⟨u.2.1, _, u.1, (m_restore w1 v p sh ln pr gd co c s L n S hs len t g ke hG hV hn hL hhs (fun y => KW_b (hSW y))).imp (fun r2 w2 q2 => ?_)⟩
    rw [if_neg q] at q2
    exact J_fin h1 h2 u ⟨q2.1, q2.2.1, REFS_e (KW_b kS) e q2.2.2⟩ hI2

theorem j_read {sc : av_E} {w : av_W} (J : JW sc w) : JC MX4_read MX5_read [] sc w := by
  obtain ⟨h1, h2, ⟨v, p, sh, ln, pr, gd, co, c, s⟩, L, n, S, hs, len, t, hC, hR, hI⟩ := J
  obtain ⟨hW, hn, hL0, hhs, hSW, hCR, hlen⟩ := id hI
  have hV := hW.1
  have hv : 2 ≤ v ∧ v ≤ 4 := hV.1.1
  have hp : 2 ≤ p ∧ p ≤ 6 := hV.1.2.1
  have hL : ∀ i : Nat, (i : Int) < n → (L i).1 ≤ 4 ∧ (L i).2.1 ≤ 6 := fun i hi => KW_b (hL0 i hi)
  refine (c_read w v p sh ln pr gd co c s L n S hs len t hC hV hn hCR hlen).imp (fun r1 w1 u => ?_)
  have go : ∀ x : Int, r1 = some (.int (iN x)) → agO 0 33 w w1 → (∀ r2 w2, ((∃ q : Int, badC t len q ∧ RM w1 w2 r2 (-200 - q) (v, p, sh, ln, pr, gd, co, c, s) L n S hs len t) ∨ (goodC t len ∧ RM w1 w2 r2 (rdV (v, p, sh, ln, pr, gd, co, c, s) t len).1 (rdV (v, p, sh, ln, pr, gd, co, c, s) t len) (recL L n (v, p, sh, ln, pr, gd, co, c, s)) (recN n) S hs len t)) → r2 = some (.int (iN x)) ∧ agO 33 42 w1 w2 ∧ JW sc w2) → agO 0 33 w w1 ∧ ∃ x, r1 = some (.int (iN x)) ∧ cl MX5_read [.ref 33] w1 (fun r2 w2 => r2 = some (.int (iN x)) ∧ agO 33 42 w1 w2 ∧ JW sc w2) := by
    intro x e ga hk
    obtain ⟨g, ke, hG⟩ := REFS_ag hR ga
    obtain ⟨-, -, -, -, -, -, -, -, -, ⟨tm, x41w, xR, et⟩⟩ := id hG
    subst et
    exact ⟨ga, x, e, (m_read w1 v p sh ln pr gd co c s L n S hs len tm g ke hG x41w xR hlen hW hn hL).imp hk⟩
  rcases u with ⟨q, hq, u⟩ | ⟨hg, u⟩
  · refine go _ u.1 u.2.1 (fun r2 w2 q2 => ?_)
    rcases q2 with ⟨q3, hq3, q2⟩ | ⟨hg, q2⟩
    · rw [bad_uniq hq3 hq] at q2
      exact J_fin h1 h2 u q2 hI
    · exact absurd hq (fun z => good_bad hg z)
  · refine go _ u.1 u.2.1 (fun r2 w2 q2 => ?_)
    rcases q2 with ⟨q3, hq3, q2⟩ | ⟨hg2, q2⟩
    · exact absurd hq3 (fun z => good_bad hg z)
    · exact J_fin h1 h2 u q2 (JI_rec hI (KW_rd hW hg hlen.1))
