/-! BOTH OBJECTS: the first at the cells 0 to 32, the second at 33 to 65 -/
theorem CLS_hagp {w w2 : av_W} {q : Nat} {n : Int} {L : Nat → CV} (h : HsP w q n L) (g : agO 33 66 w w2) : HsP w2 q n L := by
  obtain ⟨h14, ⟨F, h15, hF⟩, hc⟩ := h
  exact ⟨(g.2 14 (by omega)).trans h14, ⟨F, (g.2 15 (by omega)).trans h15, hF⟩, fun j hj => (hc j hj).ag g (by omega)⟩
theorem CLS_agp {w w2 : av_W} {V : CV} {L : Nat → CV} {n : Int} {S : CV} {hs len : Int} {t : Nat → Int} (h : CLS w V L n S hs len t) (g : agO 33 66 w w2) : CLS w2 V L n S hs len t := by
  obtain ⟨a0, a1, a2, ⟨f3, g3, a3⟩, ⟨f4, a4⟩, ⟨f5, g5, a5⟩, ⟨f6, a6⟩, ⟨f7, a7⟩, a8, ⟨f9, a9⟩⟩ := h
  exact ⟨by rw [g.1]; exact a0, (g.2 0 (by omega)).trans a1, a2.ag g (by omega), ⟨_, _, a3.ag g (by omega) (by omega) (by omega)⟩, ⟨_, a4.ag g (by omega)⟩, ⟨_, _, a5.ag g (by omega) (by omega) (by omega)⟩, ⟨_, (g.2 13 (by omega)).trans a6⟩, ⟨_, CLS_hagp a7 g⟩, a8.ag g (by omega), ⟨_, a9.ag g (by omega) (by omega)⟩⟩
theorem ag_rW {w w2 : av_W} (g : agO 0 33 w w2) : agO 33 66 (rW w) (rW w2) := by
  refine ⟨g.1, fun k hk => ?_⟩
  show rEn (w2.2.2 (rk k)) = rEn (w.2.2 (rk k))
  rw [g.2 (rk k) (by unfold rk; split <;> (try split) <;> omega)]
theorem ag_rW2 {w w2 : av_W} (g : agO 0 33 (rW w) (rW w2)) : agO 33 66 w w2 := by
  have h := ag_rW g
  rw [rW_rW, rW_rW] at h
  exact h
/-- an object with the card V and a text -/
def OB (w : av_W) (V : CV) (len : Int) (t : Nat → Int) : Prop := ∃ (L : Nat → CV) (n : Int) (S : CV) (hs : Int), CLS w V L n S hs len t ∧ (0 ≤ n ∧ n ≤ 4) ∧ KW V ∧ CR t ∧ (0 ≤ len ∧ len ≤ 80)
theorem OB.ag {w w2 : av_W} {V : CV} {len : Int} {t : Nat → Int} (h : OB w V len t) (g : agO 33 66 w w2) : OB w2 V len t := by
  obtain ⟨L, n, S, hs, h1, h2⟩ := h
  exact ⟨L, n, S, hs, CLS_agp h1 g, h2⟩
/-- both objects, and the script -/
def JJ (sc : av_E) (w : av_W) (V U : CV) (len len2 : Int) (t t2 : Nat → Int) : Prop := w.1 = 66 ∧ w.2.2 av_scr = sc ∧ OB w V len t ∧ OB (rW w) U len2 t2
def nx (o : Int × Option CV) (V : CV) : CV := o.2.getD V
section JJS
variable {sc : av_E} {w w2 : av_W} {V U V2 U2 : CV} {len len2 len3 : Int} {t t2 t3 : Nat → Int}
theorem JJ.o (J : JJ sc w V U len len2 t t2) (g : agO 0 33 w w2) (h : OB w2 V2 len3 t3) : JJ sc w2 V2 U len3 len2 t3 t2 := ⟨g.1.trans J.1, (g.2 av_scr (by unfold av_scr; omega)).trans J.2.1, h, J.2.2.2.ag (ag_rW g)⟩
theorem JJ.p (J : JJ sc w V U len len2 t t2) (g : agO 0 33 (rW w) (rW w2)) (h : OB (rW w2) U2 len3 t3) : JJ sc w2 V U2 len len3 t t3 := by
  have g2 := ag_rW2 g
  exact ⟨g2.1.trans J.1, (g2.2 av_scr (by unfold av_scr; omega)).trans J.2.1, J.2.2.1.ag g2, h⟩
theorem JJ.cells (J : JJ sc w V U len len2 t t2) : (0 < w.1 ∧ ∃ fs : List Value, w.2.2 0 = .inr (4, fs)) ∧ (33 < w.1 ∧ ∃ fs : List Value, w.2.2 33 = .inr (4, fs)) := by
  obtain ⟨n, -, ⟨L, n1, S, hs, h1, -⟩, ⟨L2, n2, S2, hs2, h2, -⟩⟩ := J
  refine ⟨⟨by omega, _, h1.2.1⟩, by omega, ?_⟩
  have e : rEn (w.2.2 33) = maO hs2 := h2.2.1
  have e2 := congrArg rEn e
  rw [rEn_rEn] at e2
  exact ⟨_, e2⟩
theorem JJ.kv (J : JJ sc w V U len len2 t t2) : KW V ∧ CR t ∧ (0 ≤ len ∧ len ≤ 80) := by
  obtain ⟨-, -, ⟨L, n, S, hs, -, -, h⟩, -⟩ := J
  exact h
theorem JJ.ku (J : JJ sc w V U len len2 t t2) : KW U ∧ CR t2 ∧ (0 ≤ len2 ∧ len2 ≤ 80) := by
  obtain ⟨-, -, -, ⟨L, n, S, hs, -, -, h⟩⟩ := J
  exact h
theorem recN_rg {n : Int} (h : 0 ≤ n ∧ n ≤ 4) : 0 ≤ recN n ∧ recN n ≤ 4 := by
  unfold recN
  split <;> omega
theorem RA_OB {w' : av_W} {r' : Option Value} {q : Int × Option CV} {L : Nat → CV} {n : Int} {S : CV} {hs : Int} (h : RA w w' r' q V L n S hs len t) (hn : 0 ≤ n ∧ n ≤ 4) (hK : KW V) (hk : ∀ V2, q.2 = some V2 → KW V2) (hR : CR t) (hl : 0 ≤ len ∧ len ≤ 80) : r' = some (.int (iN q.1)) ∧ agO 0 33 w w' ∧ OB w' (nx q V) len t := by
  obtain ⟨x, _ | V2⟩ := q
  · exact ⟨h.1, h.2.1, L, n, S, hs, h.2.2, hn, hK, hR, hl⟩
  · exact ⟨h.1, h.2.1, recL L n V, recN n, S, hs, h.2.2, recN_rg hn, hk V2 rfl, hR, hl⟩
theorem o_count10 {n len2 k : Int} (hk : 0 ≤ k ∧ k ≤ 10) : o_count V n len2 k = o_count V 0 0 k := by
  obtain ⟨v, p, sh, ln, pr, gd, co, c, s⟩ := V
  unfold o_count
  have h1 : ¬ k = 11 := by omega
  have h2 : ¬ k = 12 := by omega
  simp only [if_neg h1, if_neg h2]

theorem ot_colourOf (J : JJ sc w V U len len2 t t2) (a : Int) (b : Int) (ha : RG a) (hb : RG b) : cl MX4_colourOf [.ref 0, .int (iN a), .int (iN b)] w (fun r' w' => r' = some (.int (iN (o_colourOf V a b))) ∧ JJ sc w' V U len len2 t t2) := by
  obtain ⟨v, p, sh, ln, pr, gd, co, c, s⟩ := V
  obtain ⟨L, n, S, hs, hC, hn, hK, hR, hl⟩ := J.2.2.1
  exact (c_colourOf w v p sh ln pr gd co c s L n S hs len t hC hK.1 hn a ha b hb).imp (fun r' w' q => ⟨q.1, J.o q.2.1 ⟨L, n, S, hs, q.2.2, hn, hK, hR, hl⟩⟩)

theorem pt_colourOf (J : JJ sc w V U len len2 t t2) (a : Int) (b : Int) (ha : RG a) (hb : RG b) : cl MX4_colourOf [.ref 33, .int (iN a), .int (iN b)] w (fun r' w' => r' = some (.int (iN (o_colourOf U a b))) ∧ JJ sc w' V U len len2 t t2) := by
  obtain ⟨v, p, sh, ln, pr, gd, co, c, s⟩ := U
  obtain ⟨L, n, S, hs, hC, hn, hK, hR, hl⟩ := J.2.2.2
  refine (cl_rl (by decide) J.1 (c_colourOf (rW w) v p sh ln pr gd co c s L n S hs len2 t2 hC hK.1 hn a ha b hb) (fun r w2 q => q.2.1.1.trans J.1)).imp (fun r' w' q => ?_)
  obtain ⟨r0, q, rfl⟩ := q
  exact ⟨by rw [q.1]; rfl, J.p q.2.1 ⟨L, n, S, hs, q.2.2, hn, hK, hR, hl⟩⟩

theorem ot_viewOf (J : JJ sc w V U len len2 t t2) (a : Int) (ha : RG a) : cl MX4_viewOf [.ref 0, .int (iN a)] w (fun r' w' => r' = some (.int (iN (o_viewOf V a))) ∧ JJ sc w' V U len len2 t t2) := by
  obtain ⟨v, p, sh, ln, pr, gd, co, c, s⟩ := V
  obtain ⟨L, n, S, hs, hC, hn, hK, hR, hl⟩ := J.2.2.1
  exact (c_viewOf w v p sh ln pr gd co c s L n S hs len t hC hK.1 hn a ha).imp (fun r' w' q => ⟨q.1, J.o q.2.1 ⟨L, n, S, hs, q.2.2, hn, hK, hR, hl⟩⟩)

theorem pt_viewOf (J : JJ sc w V U len len2 t t2) (a : Int) (ha : RG a) : cl MX4_viewOf [.ref 33, .int (iN a)] w (fun r' w' => r' = some (.int (iN (o_viewOf U a))) ∧ JJ sc w' V U len len2 t t2) := by
  obtain ⟨v, p, sh, ln, pr, gd, co, c, s⟩ := U
  obtain ⟨L, n, S, hs, hC, hn, hK, hR, hl⟩ := J.2.2.2
  refine (cl_rl (by decide) J.1 (c_viewOf (rW w) v p sh ln pr gd co c s L n S hs len2 t2 hC hK.1 hn a ha) (fun r w2 q => q.2.1.1.trans J.1)).imp (fun r' w' q => ?_)
  obtain ⟨r0, q, rfl⟩ := q
  exact ⟨by rw [q.1]; rfl, J.p q.2.1 ⟨L, n, S, hs, q.2.2, hn, hK, hR, hl⟩⟩

theorem ot_behind (J : JJ sc w V U len len2 t t2) (a : Int) (b : Int) (k : Int) (ha : RG a) (hb : RG b) (hk : RG k) : cl MX4_behind [.ref 0, .int (iN a), .int (iN b), .int (iN k)] w (fun r' w' => r' = some (.int (iN (o_behind V a b k))) ∧ JJ sc w' V U len len2 t t2) := by
  obtain ⟨v, p, sh, ln, pr, gd, co, c, s⟩ := V
  obtain ⟨L, n, S, hs, hC, hn, hK, hR, hl⟩ := J.2.2.1
  exact (c_behind w v p sh ln pr gd co c s L n S hs len t hC hK.1 hn a ha b hb k hk).imp (fun r' w' q => ⟨q.1, J.o q.2.1 ⟨L, n, S, hs, q.2.2, hn, hK, hR, hl⟩⟩)

theorem pt_behind (J : JJ sc w V U len len2 t t2) (a : Int) (b : Int) (k : Int) (ha : RG a) (hb : RG b) (hk : RG k) : cl MX4_behind [.ref 33, .int (iN a), .int (iN b), .int (iN k)] w (fun r' w' => r' = some (.int (iN (o_behind U a b k))) ∧ JJ sc w' V U len len2 t t2) := by
  obtain ⟨v, p, sh, ln, pr, gd, co, c, s⟩ := U
  obtain ⟨L, n, S, hs, hC, hn, hK, hR, hl⟩ := J.2.2.2
  refine (cl_rl (by decide) J.1 (c_behind (rW w) v p sh ln pr gd co c s L n S hs len2 t2 hC hK.1 hn a ha b hb k hk) (fun r w2 q => q.2.1.1.trans J.1)).imp (fun r' w' q => ?_)
  obtain ⟨r0, q, rfl⟩ := q
  exact ⟨by rw [q.1]; rfl, J.p q.2.1 ⟨L, n, S, hs, q.2.2, hn, hK, hR, hl⟩⟩

theorem ot_seen (J : JJ sc w V U len len2 t t2) (a : Int) (b : Int) (k : Int) (ha : RG a) (hb : RG b) (hk : RG k) : cl MX4_seen [.ref 0, .int (iN a), .int (iN b), .int (iN k)] w (fun r' w' => r' = some (.int (iN (o_seen V a b k))) ∧ JJ sc w' V U len len2 t t2) := by
  obtain ⟨v, p, sh, ln, pr, gd, co, c, s⟩ := V
  obtain ⟨L, n, S, hs, hC, hn, hK, hR, hl⟩ := J.2.2.1
  exact (c_seen w v p sh ln pr gd co c s L n S hs len t hC hK.1 hn a ha b hb k hk).imp (fun r' w' q => ⟨q.1, J.o q.2.1 ⟨L, n, S, hs, q.2.2, hn, hK, hR, hl⟩⟩)

theorem pt_seen (J : JJ sc w V U len len2 t t2) (a : Int) (b : Int) (k : Int) (ha : RG a) (hb : RG b) (hk : RG k) : cl MX4_seen [.ref 33, .int (iN a), .int (iN b), .int (iN k)] w (fun r' w' => r' = some (.int (iN (o_seen U a b k))) ∧ JJ sc w' V U len len2 t t2) := by
  obtain ⟨v, p, sh, ln, pr, gd, co, c, s⟩ := U
  obtain ⟨L, n, S, hs, hC, hn, hK, hR, hl⟩ := J.2.2.2
  refine (cl_rl (by decide) J.1 (c_seen (rW w) v p sh ln pr gd co c s L n S hs len2 t2 hC hK.1 hn a ha b hb k hk) (fun r w2 q => q.2.1.1.trans J.1)).imp (fun r' w' q => ?_)
  obtain ⟨r0, q, rfl⟩ := q
  exact ⟨by rw [q.1]; rfl, J.p q.2.1 ⟨L, n, S, hs, q.2.2, hn, hK, hR, hl⟩⟩

theorem ot_at (J : JJ sc w V U len len2 t t2) (a : Int) (k : Int) (ha : RG a) (hk : RG k) : cl MX4_at [.ref 0, .int (iN a), .int (iN k)] w (fun r' w' => r' = some (.int (iN (o_at V a k))) ∧ JJ sc w' V U len len2 t t2) := by
  obtain ⟨v, p, sh, ln, pr, gd, co, c, s⟩ := V
  obtain ⟨L, n, S, hs, hC, hn, hK, hR, hl⟩ := J.2.2.1
  exact (c_at w v p sh ln pr gd co c s L n S hs len t hC hK.1 hn a ha k hk).imp (fun r' w' q => ⟨q.1, J.o q.2.1 ⟨L, n, S, hs, q.2.2, hn, hK, hR, hl⟩⟩)

theorem pt_at (J : JJ sc w V U len len2 t t2) (a : Int) (k : Int) (ha : RG a) (hk : RG k) : cl MX4_at [.ref 33, .int (iN a), .int (iN k)] w (fun r' w' => r' = some (.int (iN (o_at U a k))) ∧ JJ sc w' V U len len2 t t2) := by
  obtain ⟨v, p, sh, ln, pr, gd, co, c, s⟩ := U
  obtain ⟨L, n, S, hs, hC, hn, hK, hR, hl⟩ := J.2.2.2
  refine (cl_rl (by decide) J.1 (c_at (rW w) v p sh ln pr gd co c s L n S hs len2 t2 hC hK.1 hn a ha k hk) (fun r w2 q => q.2.1.1.trans J.1)).imp (fun r' w' q => ?_)
  obtain ⟨r0, q, rfl⟩ := q
  exact ⟨by rw [q.1]; rfl, J.p q.2.1 ⟨L, n, S, hs, q.2.2, hn, hK, hR, hl⟩⟩

theorem ot_view (J : JJ sc w V U len len2 t t2) (a : Int) (k : Int) (ha : RG a) (hk : RG k) : cl MX4_view [.ref 0, .int (iN a), .int (iN k)] w (fun r' w' => r' = some (.int (iN (o_view V a k))) ∧ JJ sc w' V U len len2 t t2) := by
  obtain ⟨v, p, sh, ln, pr, gd, co, c, s⟩ := V
  obtain ⟨L, n, S, hs, hC, hn, hK, hR, hl⟩ := J.2.2.1
  exact (c_view w v p sh ln pr gd co c s L n S hs len t hC hK.1 hn a ha k hk).imp (fun r' w' q => ⟨q.1, J.o q.2.1 ⟨L, n, S, hs, q.2.2, hn, hK, hR, hl⟩⟩)

theorem pt_view (J : JJ sc w V U len len2 t t2) (a : Int) (k : Int) (ha : RG a) (hk : RG k) : cl MX4_view [.ref 33, .int (iN a), .int (iN k)] w (fun r' w' => r' = some (.int (iN (o_view U a k))) ∧ JJ sc w' V U len len2 t t2) := by
  obtain ⟨v, p, sh, ln, pr, gd, co, c, s⟩ := U
  obtain ⟨L, n, S, hs, hC, hn, hK, hR, hl⟩ := J.2.2.2
  refine (cl_rl (by decide) J.1 (c_view (rW w) v p sh ln pr gd co c s L n S hs len2 t2 hC hK.1 hn a ha k hk) (fun r w2 q => q.2.1.1.trans J.1)).imp (fun r' w' q => ?_)
  obtain ⟨r0, q, rfl⟩ := q
  exact ⟨by rw [q.1]; rfl, J.p q.2.1 ⟨L, n, S, hs, q.2.2, hn, hK, hR, hl⟩⟩

theorem ot_count (J : JJ sc w V U len len2 t t2) (k : Int) (hk : 0 ≤ k ∧ k ≤ 10) : cl MX4_count [.ref 0, .int (iN k)] w (fun r' w' => r' = some (.int (iN (o_count V 0 0 k))) ∧ JJ sc w' V U len len2 t t2) := by
  obtain ⟨v, p, sh, ln, pr, gd, co, c, s⟩ := V
  obtain ⟨L, n, S, hs, hC, hn, hK, hR, hl⟩ := J.2.2.1
  exact (c_count w v p sh ln pr gd co c s L n S hs len t hC hK.1 hn k (show RG k by unfold RG; omega)).imp (fun r' w' q => ⟨(by rw [q.1, o_count10 hk]), J.o q.2.1 ⟨L, n, S, hs, q.2.2, hn, hK, hR, hl⟩⟩)

theorem pt_count (J : JJ sc w V U len len2 t t2) (k : Int) (hk : 0 ≤ k ∧ k ≤ 10) : cl MX4_count [.ref 33, .int (iN k)] w (fun r' w' => r' = some (.int (iN (o_count U 0 0 k))) ∧ JJ sc w' V U len len2 t t2) := by
  obtain ⟨v, p, sh, ln, pr, gd, co, c, s⟩ := U
  obtain ⟨L, n, S, hs, hC, hn, hK, hR, hl⟩ := J.2.2.2
  refine (cl_rl (by decide) J.1 (c_count (rW w) v p sh ln pr gd co c s L n S hs len2 t2 hC hK.1 hn k (show RG k by unfold RG; omega)) (fun r w2 q => q.2.1.1.trans J.1)).imp (fun r' w' q => ?_)
  obtain ⟨r0, q, rfl⟩ := q
  exact ⟨by rw [q.1, o_count10 hk]; rfl, J.p q.2.1 ⟨L, n, S, hs, q.2.2, hn, hK, hR, hl⟩⟩

theorem ot_ifSlice (J : JJ sc w V U len len2 t t2) (a : Int) (b : Int) (ha : RG a) (hb : RG b) : cl MX4_ifSlice [.ref 0, .int (iN a), .int (iN b)] w (fun r' w' => r' = some (.int (iN (o_ifSlice V a b))) ∧ JJ sc w' V U len len2 t t2) := by
  obtain ⟨v, p, sh, ln, pr, gd, co, c, s⟩ := V
  obtain ⟨L, n, S, hs, hC, hn, hK, hR, hl⟩ := J.2.2.1
  exact (c_ifSlice w v p sh ln pr gd co c s L n S hs len t hC hK.1 hn a b ha hb).imp (fun r' w' q => ⟨q.1, J.o q.2.1 ⟨L, n, S, hs, q.2.2, hn, hK, hR, hl⟩⟩)

theorem pt_ifSlice (J : JJ sc w V U len len2 t t2) (a : Int) (b : Int) (ha : RG a) (hb : RG b) : cl MX4_ifSlice [.ref 33, .int (iN a), .int (iN b)] w (fun r' w' => r' = some (.int (iN (o_ifSlice U a b))) ∧ JJ sc w' V U len len2 t t2) := by
  obtain ⟨v, p, sh, ln, pr, gd, co, c, s⟩ := U
  obtain ⟨L, n, S, hs, hC, hn, hK, hR, hl⟩ := J.2.2.2
  refine (cl_rl (by decide) J.1 (c_ifSlice (rW w) v p sh ln pr gd co c s L n S hs len2 t2 hC hK.1 hn a b ha hb) (fun r w2 q => q.2.1.1.trans J.1)).imp (fun r' w' q => ?_)
  obtain ⟨r0, q, rfl⟩ := q
  exact ⟨by rw [q.1]; rfl, J.p q.2.1 ⟨L, n, S, hs, q.2.2, hn, hK, hR, hl⟩⟩

def bsZ (V : CV) : Int := (sbF (fun x => GA V.2.1 x V.2.2.2.1 V.2.2.2.2.2.2.2.2) 3).1

theorem ot_bestShift (J : JJ sc w V U len len2 t t2) : cl MX4_bestShift [.ref 0] w (fun r' w' => r' = some (.int (iN (bsZ V))) ∧ JJ sc w' V U len len2 t t2) := by
  obtain ⟨v, p, sh, ln, pr, gd, co, c, s⟩ := V
  obtain ⟨L, n, S, hs, hC, hn, hK, hR, hl⟩ := J.2.2.1
  exact (c_bestShift w v p sh ln pr gd co c s L n S hs len t hC hK.1 hn ).imp (fun r' w' q => ⟨q.1, J.o q.2.1 ⟨L, n, S, hs, q.2.2, hn, hK, hR, hl⟩⟩)

theorem pt_bestShift (J : JJ sc w V U len len2 t t2) : cl MX4_bestShift [.ref 33] w (fun r' w' => r' = some (.int (iN (bsZ U))) ∧ JJ sc w' V U len len2 t t2) := by
  obtain ⟨v, p, sh, ln, pr, gd, co, c, s⟩ := U
  obtain ⟨L, n, S, hs, hC, hn, hK, hR, hl⟩ := J.2.2.2
  refine (cl_rl (by decide) J.1 (c_bestShift (rW w) v p sh ln pr gd co c s L n S hs len2 t2 hC hK.1 hn ) (fun r w2 q => q.2.1.1.trans J.1)).imp (fun r' w' q => ?_)
  obtain ⟨r0, q, rfl⟩ := q
  exact ⟨by rw [q.1]; rfl, J.p q.2.1 ⟨L, n, S, hs, q.2.2, hn, hK, hR, hl⟩⟩

theorem oa_colour (J : JJ sc w V U len len2 t t2) (a : Int) (b : Int) (k : Int) (ha : RG a) (hb : RG b) (hk : RG k) : cl MX4_colour [.ref 0, .int (iN a), .int (iN b), .int (iN k)] w (fun r' w' => r' = some (.int (iN (o_colour V a b k).1)) ∧ JJ sc w' (nx (o_colour V a b k) V) U len len2 t t2) := by
  obtain ⟨v, p, sh, ln, pr, gd, co, c, s⟩ := V
  obtain ⟨L, n, S, hs, hC, hn, hK, hR, hl⟩ := J.2.2.1
  refine (c_colour w v p sh ln pr gd co c s L n S hs len t hC hK.1 hn a ha b hb k hk).imp (fun r' w' q => ?_)
  obtain ⟨q1, q2, q3⟩ := RA_OB q hn hK (ko_colour hK a b k) hR hl
  exact ⟨q1, J.o q2 q3⟩

theorem pa_colour (J : JJ sc w V U len len2 t t2) (a : Int) (b : Int) (k : Int) (ha : RG a) (hb : RG b) (hk : RG k) : cl MX4_colour [.ref 33, .int (iN a), .int (iN b), .int (iN k)] w (fun r' w' => r' = some (.int (iN (o_colour U a b k).1)) ∧ JJ sc w' V (nx (o_colour U a b k) U) len len2 t t2) := by
  obtain ⟨v, p, sh, ln, pr, gd, co, c, s⟩ := U
  obtain ⟨L, n, S, hs, hC, hn, hK, hR, hl⟩ := J.2.2.2
  refine (cl_rl (by decide) J.1 (c_colour (rW w) v p sh ln pr gd co c s L n S hs len2 t2 hC hK.1 hn a ha b hb k hk) (fun r w2 q => (RA_OB q hn hK (ko_colour hK a b k) hR hl).2.1.1.trans J.1)).imp (fun r' w' q => ?_)
  obtain ⟨r0, q, rfl⟩ := q
  obtain ⟨q1, q2, q3⟩ := RA_OB q hn hK (ko_colour hK a b k) hR hl
  exact ⟨by rw [q1]; rfl, J.p q2 q3⟩

theorem oa_slice (J : JJ sc w V U len len2 t t2) (a : Int) (b : Int) (ha : RG a) (hb : RG b) : cl MX4_slice [.ref 0, .int (iN a), .int (iN b)] w (fun r' w' => r' = some (.int (iN (o_slice V a b).1)) ∧ JJ sc w' (nx (o_slice V a b) V) U len len2 t t2) := by
  obtain ⟨v, p, sh, ln, pr, gd, co, c, s⟩ := V
  obtain ⟨L, n, S, hs, hC, hn, hK, hR, hl⟩ := J.2.2.1
  refine (c_slice w v p sh ln pr gd co c s L n S hs len t hC hK.1 hn a ha b hb).imp (fun r' w' q => ?_)
  obtain ⟨q1, q2, q3⟩ := RA_OB q hn hK (ko_slice hK a b) hR hl
  exact ⟨q1, J.o q2 q3⟩

theorem pa_slice (J : JJ sc w V U len len2 t t2) (a : Int) (b : Int) (ha : RG a) (hb : RG b) : cl MX4_slice [.ref 33, .int (iN a), .int (iN b)] w (fun r' w' => r' = some (.int (iN (o_slice U a b).1)) ∧ JJ sc w' V (nx (o_slice U a b) U) len len2 t t2) := by
  obtain ⟨v, p, sh, ln, pr, gd, co, c, s⟩ := U
  obtain ⟨L, n, S, hs, hC, hn, hK, hR, hl⟩ := J.2.2.2
  refine (cl_rl (by decide) J.1 (c_slice (rW w) v p sh ln pr gd co c s L n S hs len2 t2 hC hK.1 hn a ha b hb) (fun r w2 q => (RA_OB q hn hK (ko_slice hK a b) hR hl).2.1.1.trans J.1)).imp (fun r' w' q => ?_)
  obtain ⟨r0, q, rfl⟩ := q
  obtain ⟨q1, q2, q3⟩ := RA_OB q hn hK (ko_slice hK a b) hR hl
  exact ⟨by rw [q1]; rfl, J.p q2 q3⟩

theorem oa_swap (J : JJ sc w V U len len2 t t2) (a : Int) (b : Int) (ha : RG a) (hb : RG b) : cl MX4_swap [.ref 0, .int (iN a), .int (iN b)] w (fun r' w' => r' = some (.int (iN (o_swap V a b).1)) ∧ JJ sc w' (nx (o_swap V a b) V) U len len2 t t2) := by
  obtain ⟨v, p, sh, ln, pr, gd, co, c, s⟩ := V
  obtain ⟨L, n, S, hs, hC, hn, hK, hR, hl⟩ := J.2.2.1
  refine (c_swap w v p sh ln pr gd co c s L n S hs len t hC hK.1 hn a ha b hb).imp (fun r' w' q => ?_)
  obtain ⟨q1, q2, q3⟩ := RA_OB q hn hK (ko_swap hK a b) hR hl
  exact ⟨q1, J.o q2 q3⟩

theorem pa_swap (J : JJ sc w V U len len2 t t2) (a : Int) (b : Int) (ha : RG a) (hb : RG b) : cl MX4_swap [.ref 33, .int (iN a), .int (iN b)] w (fun r' w' => r' = some (.int (iN (o_swap U a b).1)) ∧ JJ sc w' V (nx (o_swap U a b) U) len len2 t t2) := by
  obtain ⟨v, p, sh, ln, pr, gd, co, c, s⟩ := U
  obtain ⟨L, n, S, hs, hC, hn, hK, hR, hl⟩ := J.2.2.2
  refine (cl_rl (by decide) J.1 (c_swap (rW w) v p sh ln pr gd co c s L n S hs len2 t2 hC hK.1 hn a ha b hb) (fun r w2 q => (RA_OB q hn hK (ko_swap hK a b) hR hl).2.1.1.trans J.1)).imp (fun r' w' q => ?_)
  obtain ⟨r0, q, rfl⟩ := q
  obtain ⟨q1, q2, q3⟩ := RA_OB q hn hK (ko_swap hK a b) hR hl
  exact ⟨by rw [q1]; rfl, J.p q2 q3⟩

theorem oa_setPitch (J : JJ sc w V U len len2 t t2) (a : Int) (ha : RG a) : cl MX4_setPitch [.ref 0, .int (iN a)] w (fun r' w' => r' = some (.int (iN (o_setPitch V a).1)) ∧ JJ sc w' (nx (o_setPitch V a) V) U len len2 t t2) := by
  obtain ⟨v, p, sh, ln, pr, gd, co, c, s⟩ := V
  obtain ⟨L, n, S, hs, hC, hn, hK, hR, hl⟩ := J.2.2.1
  refine (c_setPitch w v p sh ln pr gd co c s L n S hs len t hC hK.1 hn a ha).imp (fun r' w' q => ?_)
  obtain ⟨q1, q2, q3⟩ := RA_OB q hn hK (ko_setPitch hK a) hR hl
  exact ⟨q1, J.o q2 q3⟩

theorem pa_setPitch (J : JJ sc w V U len len2 t t2) (a : Int) (ha : RG a) : cl MX4_setPitch [.ref 33, .int (iN a)] w (fun r' w' => r' = some (.int (iN (o_setPitch U a).1)) ∧ JJ sc w' V (nx (o_setPitch U a) U) len len2 t t2) := by
  obtain ⟨v, p, sh, ln, pr, gd, co, c, s⟩ := U
  obtain ⟨L, n, S, hs, hC, hn, hK, hR, hl⟩ := J.2.2.2
  refine (cl_rl (by decide) J.1 (c_setPitch (rW w) v p sh ln pr gd co c s L n S hs len2 t2 hC hK.1 hn a ha) (fun r w2 q => (RA_OB q hn hK (ko_setPitch hK a) hR hl).2.1.1.trans J.1)).imp (fun r' w' q => ?_)
  obtain ⟨r0, q, rfl⟩ := q
  obtain ⟨q1, q2, q3⟩ := RA_OB q hn hK (ko_setPitch hK a) hR hl
  exact ⟨by rw [q1]; rfl, J.p q2 q3⟩

theorem oa_setShift (J : JJ sc w V U len len2 t t2) (a : Int) (ha : RG a) : cl MX4_setShift [.ref 0, .int (iN a)] w (fun r' w' => r' = some (.int (iN (o_setShift V a).1)) ∧ JJ sc w' (nx (o_setShift V a) V) U len len2 t t2) := by
  obtain ⟨v, p, sh, ln, pr, gd, co, c, s⟩ := V
  obtain ⟨L, n, S, hs, hC, hn, hK, hR, hl⟩ := J.2.2.1
  refine (c_setShift w v p sh ln pr gd co c s L n S hs len t hC hK.1 hn a ha).imp (fun r' w' q => ?_)
  obtain ⟨q1, q2, q3⟩ := RA_OB q hn hK (ko_setShift hK a) hR hl
  exact ⟨q1, J.o q2 q3⟩

theorem pa_setShift (J : JJ sc w V U len len2 t t2) (a : Int) (ha : RG a) : cl MX4_setShift [.ref 33, .int (iN a)] w (fun r' w' => r' = some (.int (iN (o_setShift U a).1)) ∧ JJ sc w' V (nx (o_setShift U a) U) len len2 t t2) := by
  obtain ⟨v, p, sh, ln, pr, gd, co, c, s⟩ := U
  obtain ⟨L, n, S, hs, hC, hn, hK, hR, hl⟩ := J.2.2.2
  refine (cl_rl (by decide) J.1 (c_setShift (rW w) v p sh ln pr gd co c s L n S hs len2 t2 hC hK.1 hn a ha) (fun r w2 q => (RA_OB q hn hK (ko_setShift hK a) hR hl).2.1.1.trans J.1)).imp (fun r' w' q => ?_)
  obtain ⟨r0, q, rfl⟩ := q
  obtain ⟨q1, q2, q3⟩ := RA_OB q hn hK (ko_setShift hK a) hR hl
  exact ⟨by rw [q1]; rfl, J.p q2 q3⟩

theorem oa_setLean (J : JJ sc w V U len len2 t t2) (a : Int) (ha : RG a) : cl MX4_setLean [.ref 0, .int (iN a)] w (fun r' w' => r' = some (.int (iN (o_setLean V a).1)) ∧ JJ sc w' (nx (o_setLean V a) V) U len len2 t t2) := by
  obtain ⟨v, p, sh, ln, pr, gd, co, c, s⟩ := V
  obtain ⟨L, n, S, hs, hC, hn, hK, hR, hl⟩ := J.2.2.1
  refine (c_setLean w v p sh ln pr gd co c s L n S hs len t hC hK.1 hn a ha).imp (fun r' w' q => ?_)
  obtain ⟨q1, q2, q3⟩ := RA_OB q hn hK (ko_setLean hK a) hR hl
  exact ⟨q1, J.o q2 q3⟩

theorem pa_setLean (J : JJ sc w V U len len2 t t2) (a : Int) (ha : RG a) : cl MX4_setLean [.ref 33, .int (iN a)] w (fun r' w' => r' = some (.int (iN (o_setLean U a).1)) ∧ JJ sc w' V (nx (o_setLean U a) U) len len2 t t2) := by
  obtain ⟨v, p, sh, ln, pr, gd, co, c, s⟩ := U
  obtain ⟨L, n, S, hs, hC, hn, hK, hR, hl⟩ := J.2.2.2
  refine (cl_rl (by decide) J.1 (c_setLean (rW w) v p sh ln pr gd co c s L n S hs len2 t2 hC hK.1 hn a ha) (fun r w2 q => (RA_OB q hn hK (ko_setLean hK a) hR hl).2.1.1.trans J.1)).imp (fun r' w' q => ?_)
  obtain ⟨r0, q, rfl⟩ := q
  obtain ⟨q1, q2, q3⟩ := RA_OB q hn hK (ko_setLean hK a) hR hl
  exact ⟨by rw [q1]; rfl, J.p q2 q3⟩

theorem oa_press (J : JJ sc w V U len len2 t t2) (a : Int) (ha : RG a) : cl MX4_press [.ref 0, .int (iN a)] w (fun r' w' => r' = some (.int (iN (o_press V a).1)) ∧ JJ sc w' (nx (o_press V a) V) U len len2 t t2) := by
  obtain ⟨v, p, sh, ln, pr, gd, co, c, s⟩ := V
  obtain ⟨L, n, S, hs, hC, hn, hK, hR, hl⟩ := J.2.2.1
  refine (c_press w v p sh ln pr gd co c s L n S hs len t hC hK.1 hn a ha).imp (fun r' w' q => ?_)
  obtain ⟨q1, q2, q3⟩ := RA_OB q hn hK (ko_press hK a) hR hl
  exact ⟨q1, J.o q2 q3⟩

theorem pa_press (J : JJ sc w V U len len2 t t2) (a : Int) (ha : RG a) : cl MX4_press [.ref 33, .int (iN a)] w (fun r' w' => r' = some (.int (iN (o_press U a).1)) ∧ JJ sc w' V (nx (o_press U a) U) len len2 t t2) := by
  obtain ⟨v, p, sh, ln, pr, gd, co, c, s⟩ := U
  obtain ⟨L, n, S, hs, hC, hn, hK, hR, hl⟩ := J.2.2.2
  refine (cl_rl (by decide) J.1 (c_press (rW w) v p sh ln pr gd co c s L n S hs len2 t2 hC hK.1 hn a ha) (fun r w2 q => (RA_OB q hn hK (ko_press hK a) hR hl).2.1.1.trans J.1)).imp (fun r' w' q => ?_)
  obtain ⟨r0, q, rfl⟩ := q
  obtain ⟨q1, q2, q3⟩ := RA_OB q hn hK (ko_press hK a) hR hl
  exact ⟨by rw [q1]; rfl, J.p q2 q3⟩

theorem oa_removeView (J : JJ sc w V U len len2 t t2) (a : Int) (ha : RG a) : cl MX4_removeView [.ref 0, .int (iN a)] w (fun r' w' => r' = some (.int (iN (o_removeView V a).1)) ∧ JJ sc w' (nx (o_removeView V a) V) U len len2 t t2) := by
  obtain ⟨v, p, sh, ln, pr, gd, co, c, s⟩ := V
  obtain ⟨L, n, S, hs, hC, hn, hK, hR, hl⟩ := J.2.2.1
  refine (c_removeView w v p sh ln pr gd co c s L n S hs len t hC hK.1 hn a ha).imp (fun r' w' q => ?_)
  obtain ⟨q1, q2, q3⟩ := RA_OB q hn hK (ko_removeView hK a) hR hl
  exact ⟨q1, J.o q2 q3⟩

theorem pa_removeView (J : JJ sc w V U len len2 t t2) (a : Int) (ha : RG a) : cl MX4_removeView [.ref 33, .int (iN a)] w (fun r' w' => r' = some (.int (iN (o_removeView U a).1)) ∧ JJ sc w' V (nx (o_removeView U a) U) len len2 t t2) := by
  obtain ⟨v, p, sh, ln, pr, gd, co, c, s⟩ := U
  obtain ⟨L, n, S, hs, hC, hn, hK, hR, hl⟩ := J.2.2.2
  refine (cl_rl (by decide) J.1 (c_removeView (rW w) v p sh ln pr gd co c s L n S hs len2 t2 hC hK.1 hn a ha) (fun r w2 q => (RA_OB q hn hK (ko_removeView hK a) hR hl).2.1.1.trans J.1)).imp (fun r' w' q => ?_)
  obtain ⟨r0, q, rfl⟩ := q
  obtain ⟨q1, q2, q3⟩ := RA_OB q hn hK (ko_removeView hK a) hR hl
  exact ⟨by rw [q1]; rfl, J.p q2 q3⟩

theorem ox_clearText (J : JJ sc w V U len len2 t t2) : cl MX4_clearText [.ref 0] w (fun r' w' => r' = some (.int (iN len)) ∧ JJ sc w' V U 0 len2 t t2) := by
  obtain ⟨v, p, sh, ln, pr, gd, co, c, s⟩ := V
  obtain ⟨L, n, S, hs, hC, hn, hK, hR, hl⟩ := J.2.2.1
  exact (c_clearText w v p sh ln pr gd co c s L n S hs len t hC hK.1 hn hR hl).imp (fun r' w' q => ⟨q.1, J.o q.2.1 ⟨L, n, S, hs, q.2.2, hn, hK, hR, by omega⟩⟩)

theorem ox_type (J : JJ sc w V U len len2 t t2) (x : Int) (hx : 0 ≤ x ∧ x ≤ 255) (hl8 : len < 80) : cl MX4_type [.ref 0, .int (iN x)] w (fun r' w' => r' = some (.int (iN (len + 1))) ∧ JJ sc w' V U (len + 1) len2 (updZ t len.toNat x) t2) := by
  obtain ⟨v, p, sh, ln, pr, gd, co, c, s⟩ := V
  obtain ⟨L, n, S, hs, hC, hn, hK, hR, hl⟩ := J.2.2.1
  have hR2 : CR (updZ t len.toNat x) := by
    intro j hj
    show 0 ≤ (if j = len.toNat then x else t j) ∧ (if j = len.toNat then x else t j) ≤ 255
    split
    · exact hx
    · exact hR j hj
  have hc := c_type w v p sh ln pr gd co c s L n S hs len t hC hK.1 hn hR hl x (by omega)
  simp only [if_neg (show ¬ 80 ≤ len by omega), if_pos hx.2] at hc
  exact hc.imp (fun r' w' q => ⟨q.1, J.o q.2.1 ⟨L, n, S, hs, q.2.2, hn, hK, hR2, by omega⟩⟩)

theorem ox_read (J : JJ sc w V U len len2 t t2) (hg : goodC t len) : cl MX4_read [.ref 0] w (fun r' w' => r' = some (.int (iN (rdV V t len).1)) ∧ JJ sc w' (rdV V t len) U len len2 t t2) := by
  obtain ⟨v, p, sh, ln, pr, gd, co, c, s⟩ := V
  obtain ⟨L, n, S, hs, hC, hn, hK, hR, hl⟩ := J.2.2.1
  have hc : cl MX4_read [.ref 0] w (fun (r' : Option Value) (w' : av_W) => RC w w' r' (rdV (v, p, sh, ln, pr, gd, co, c, s) t len).1 (rdV (v, p, sh, ln, pr, gd, co, c, s) t len) (recL L n (v, p, sh, ln, pr, gd, co, c, s)) (recN n) S hs len t) := (c_read w v p sh ln pr gd co c s L n S hs len t hC hK.1 hn hR hl).imp (fun r' w' q => by
    rcases q with ⟨x, hb, -⟩ | ⟨-, q⟩
    · exact (good_bad hg hb).elim
    · exact q)
  have hK2 := KW_rd hK hg hl.1
  exact hc.imp (fun r' w' q => ⟨q.1, J.o q.2.1 ⟨_, _, S, hs, q.2.2, recN_rg hn, hK2, hR, hl⟩⟩)

theorem px_clearText (J : JJ sc w V U len len2 t t2) : cl MX4_clearText [.ref 33] w (fun r' w' => r' = some (.int (iN len2)) ∧ JJ sc w' V U len 0 t t2) := by
  obtain ⟨v, p, sh, ln, pr, gd, co, c, s⟩ := U
  obtain ⟨L, n, S, hs, hC, hn, hK, hR, hl⟩ := J.2.2.2
  refine (cl_rl (by decide) J.1 (c_clearText (rW w) v p sh ln pr gd co c s L n S hs len2 t2 hC hK.1 hn hR hl) (fun r w2 q => q.2.1.1.trans J.1)).imp (fun r' w' q => ?_)
  obtain ⟨r0, q, rfl⟩ := q
  exact ⟨by rw [q.1]; rfl, J.p q.2.1 ⟨L, n, S, hs, q.2.2, hn, hK, hR, by omega⟩⟩

theorem px_type (J : JJ sc w V U len len2 t t2) (x : Int) (hx : 0 ≤ x ∧ x ≤ 255) (hl8 : len2 < 80) : cl MX4_type [.ref 33, .int (iN x)] w (fun r' w' => r' = some (.int (iN (len2 + 1))) ∧ JJ sc w' V U len (len2 + 1) t (updZ t2 len2.toNat x)) := by
  obtain ⟨v, p, sh, ln, pr, gd, co, c, s⟩ := U
  obtain ⟨L, n, S, hs, hC, hn, hK, hR, hl⟩ := J.2.2.2
  have hR2 : CR (updZ t2 len2.toNat x) := by
    intro j hj
    show 0 ≤ (if j = len2.toNat then x else t2 j) ∧ (if j = len2.toNat then x else t2 j) ≤ 255
    split
    · exact hx
    · exact hR j hj
  have hc := c_type (rW w) v p sh ln pr gd co c s L n S hs len2 t2 hC hK.1 hn hR hl x (by omega)
  simp only [if_neg (show ¬ 80 ≤ len2 by omega), if_pos hx.2] at hc
  refine (cl_rl (by decide) J.1 hc (fun r w2 q => q.2.1.1.trans J.1)).imp (fun r' w' q => ?_)
  obtain ⟨r0, q, rfl⟩ := q
  exact ⟨by rw [q.1]; rfl, J.p q.2.1 ⟨L, n, S, hs, q.2.2, hn, hK, hR2, by omega⟩⟩

theorem px_read (J : JJ sc w V U len len2 t t2) (hg : goodC t2 len2) : cl MX4_read [.ref 33] w (fun r' w' => r' = some (.int (iN (rdV U t2 len2).1)) ∧ JJ sc w' V (rdV U t2 len2) len len2 t t2) := by
  obtain ⟨v, p, sh, ln, pr, gd, co, c, s⟩ := U
  obtain ⟨L, n, S, hs, hC, hn, hK, hR, hl⟩ := J.2.2.2
  have hc : cl MX4_read [.ref 0] (rW w) (fun (r' : Option Value) (w' : av_W) => RC (rW w) w' r' (rdV (v, p, sh, ln, pr, gd, co, c, s) t2 len2).1 (rdV (v, p, sh, ln, pr, gd, co, c, s) t2 len2) (recL L n (v, p, sh, ln, pr, gd, co, c, s)) (recN n) S hs len2 t2) := (c_read (rW w) v p sh ln pr gd co c s L n S hs len2 t2 hC hK.1 hn hR hl).imp (fun r' w' q => by
    rcases q with ⟨x, hb, -⟩ | ⟨-, q⟩
    · exact (good_bad hg hb).elim
    · exact q)
  have hK2 := KW_rd hK hg hl.1
  refine (cl_rl (by decide) J.1 hc (fun r w2 q => q.2.1.1.trans J.1)).imp (fun r' w' q => ?_)
  obtain ⟨r0, q, rfl⟩ := q
  exact ⟨by rw [q.1]; rfl, J.p q.2.1 ⟨_, _, S, hs, q.2.2, recN_rg hn, hK2, hR, hl⟩⟩

end JJS
