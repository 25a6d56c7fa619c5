/-! the reference: read -/
def rdC (rv : Int) (tm : Nat → Int) : Nat → Int := fun j => if ((j : Int) - 13) / 12 < rv then tm (13 * (((j : Int) - 13) / 12) + ((j : Int) - 13) % 12).toNat - 48 else 0
theorem rdC_t {rv x y : Int} {tm : Nat → Int} (hx : 0 ≤ x ∧ x < rv) (hy : 0 ≤ y ∧ y < 12) : tm (13 * x + y).toNat - 48 = rdC rv tm (13 + 12 * x + y).toNat := by
  unfold rdC
  rw [show (((13 + 12 * x + y).toNat : Nat) : Int) - 13 = 12 * x + y by omega, show (12 * x + y) / 12 = x by omega, show (12 * x + y) % 12 = y by omega, if_pos hx.2]
theorem rdC_f {rv x y : Int} {tm : Nat → Int} (h0 : 0 ≤ x) (hx : rv ≤ x) (hy : 0 ≤ y ∧ y < 12) : 0 = rdC rv tm (13 + 12 * x + y).toNat := by
  unfold rdC
  rw [show (((13 + 12 * x + y).toNat : Nat) : Int) - 13 = 12 * x + y by omega, show (12 * x + y) / 12 = x by omega, if_neg (by omega)]
theorem rd_st {k i x : Int} {F g : Nat → Int} (hk : 0 ≤ k) (hi : i = 13 + k) (e : x = F i.toNat) : updZ (rgF 13 k F g) i.toNat x = rgF 13 (k + 1) F g := by
  subst e hi
  exact rgF_step (by omega) hk F g
def rdS (oa : Int) (tm : Nat → Int) : Nat → Int := fun j => tm (oa + ((j : Int) - 7)).toNat - 48
theorem rds_st {oa k : Int} {tm g : Nat → Int} (hk : 0 ≤ k) : updZ (rgF 7 k (rdS oa tm) g) (7 + k).toNat (tm (oa + k).toNat - 48) = rgF 7 (k + 1) (rdS oa tm) g := by
  rw [← rgF_step (by omega) hk]
  congr 1
  unfold rdS
  rw [show (((7 + k).toNat : Nat) : Int) - 7 = k by omega]
theorem gV_rgs {v p sh ln pr gd co : Int} {c s g F f : Nat → Int} (q : gV (v, p, sh, ln, pr, gd, co, c, s) g) (hp : 2 ≤ p ∧ p ≤ 6) (h : ∀ j : Nat, (j : Int) < p → F (7 + j) = f j) : gV (v, p, sh, ln, pr, gd, co, c, preF p f s) (rgF 7 p F g) := by
  obtain ⟨⟨a0, a1, a2, a3, a4, a5, a6⟩, b1, b2, b3, b4⟩ := q
  have ne : ∀ j : Nat, (j < 7 ∨ 13 ≤ j) → rgF 7 p F g j = g j := fun j hj => rgF_out (by omega)
  refine ⟨⟨(ne 0 (by omega)).trans a0, (ne 1 (by omega)).trans a1, (ne 2 (by omega)).trans a2, (ne 3 (by omega)).trans a3, (ne 4 (by omega)).trans a4, (ne 5 (by omega)).trans a5, (ne 6 (by omega)).trans a6⟩, fun j hj => ?_, fun j hj hj2 => (rgF_out (by omega)).trans (b2 j hj hj2), fun j hj => (ne (13 + j) (by omega)).trans (b3 j hj), fun j hj hj2 => (ne (13 + j) (by omega)).trans (b4 j hj hj2)⟩
  show rgF 7 p F g (7 + j) = preF p f s j
  rw [rgF_in (by omega), preF_lt hj]
  exact h j hj
theorem pat_dg {tm : Nat → Int} {rv : Int} (h : pat tm (13 * rv - 1)) (hrv : 2 ≤ rv ∧ rv ≤ 4) {j : Nat} (hj : (j : Int) < 12 * rv) : rdC rv tm (13 + j) = dgc (cOf tm) j := by
  have a := rdC_t (rv := rv) (x := (j : Int) / 12) (y := (j : Int) % 12) (tm := tm) (by omega) (by omega)
  rw [show (13 + 12 * ((j : Int) / 12) + (j : Int) % 12).toNat = 13 + j by omega] at a
  rw [← a]
  unfold dgc
  have b := (h (13 * ((j : Int) / 12) + (j : Int) % 12).toNat (by omega)).2 (by omega)
  rw [dg_t (by omega), show (j : Int) / 12 * 13 + (j : Int) % 12 = 13 * ((j : Int) / 12) + (j : Int) % 12 by omega, if_pos b]
theorem rd_1 {v p sh ln pr gd co : Int} {c s tm : Nat → Int} {len rv rs oa : Int} (hg : goodF tm len rv rs oa) : (rdV (v, p, sh, ln, pr, gd, co, c, s) (cOf tm) len).1 = rv := by
  obtain ⟨-, -, hrv, hpat, hlen, hc⟩ := hg
  show (if coF (cOf tm) len.toNat = -1 then (((len + 1) / 13, _) : CV) else ((coF (cOf tm) len.toNat + 1) / 13, _)).1 = rv
  rcases hc with ⟨h1, h2, h3⟩ | ⟨h1, h2, h3, h4, h5⟩
  · rw [if_pos h1]
    show (len + 1) / 13 = rv
    omega
  · rw [if_neg (by omega)]
    show (coF (cOf tm) len.toNat + 1) / 13 = rv
    omega
theorem gV_rd {v p sh ln pr gd co : Int} {c s g tm : Nat → Int} {len rv rs oa p2 K : Int} (q : gV (v, p, sh, ln, pr, gd, co, c, s) g) (hp : 2 ≤ p ∧ p ≤ 6) (hg : goodF tm len rv rs oa) (hK : (rs = -105 ∧ p2 = p ∧ K = 0) ∨ (rs ≠ -105 ∧ p2 = rs ∧ K = rs)) : gV (rdV (v, p, sh, ln, pr, gd, co, c, s) (cOf tm) len) (rgF 7 K (rdS oa tm) (rgF 7 6 (oaF rv p2) (updZ (rgF 13 (12 * 4) (rdC rv tm) (updZ g (0 : Int).toNat rv)) (1 : Int).toNat p2))) := by
  obtain ⟨-, -, hrv, hpat, hlen, hc⟩ := hg
  obtain ⟨⟨a0, a1, a2, a3, a4, a5, a6⟩, -⟩ := q
  have ne : ∀ j : Nat, (2 ≤ j ∧ j < 13) → updZ (rgF 13 (12 * 4) (rdC rv tm) (updZ g (0 : Int).toNat rv)) (1 : Int).toNat p2 j = g j := fun j hj => (if_neg (show ¬ j = (1 : Int).toNat by omega)).trans ((rgF_out (by omega)).trans (if_neg (show ¬ j = (0 : Int).toNat by omega)))
  have n0 : updZ (rgF 13 (12 * 4) (rdC rv tm) (updZ g (0 : Int).toNat rv)) (1 : Int).toNat p2 0 = rv := (if_neg (by decide)).trans ((rgF_out (by omega)).trans rfl)
  have n1 : updZ (rgF 13 (12 * 4) (rdC rv tm) (updZ g (0 : Int).toNat rv)) (1 : Int).toNat p2 1 = p2 := rfl
  have nc : ∀ j : Nat, j < 48 → updZ (rgF 13 (12 * 4) (rdC rv tm) (updZ g (0 : Int).toNat rv)) (1 : Int).toNat p2 (13 + j) = rdC rv tm (13 + j) := fun j hj => (if_neg (show ¬ 13 + j = (1 : Int).toNat by omega)).trans (rgF_in (by omega))
  have hp2 : 2 ≤ p2 ∧ p2 ≤ 6 := by
    rcases hc with ⟨h1, h2, h3⟩ | ⟨h1, h2, h3, h4, h5⟩ <;> omega
  have base := gV_first (s := s) (c := preF (rv * 12) (dgc (cOf tm)) c) hp2.2 ⟨n0, n1, (ne 2 (by omega)).trans a2, (ne 3 (by omega)).trans a3, (ne 4 (by omega)).trans a4, (ne 5 (by omega)).trans a5, (ne 6 (by omega)).trans a6⟩ (fun j hj => by
    rw [nc j (by omega), preF_lt (by omega)]
    exact pat_dg hpat hrv hj) (fun j hj hj2 => by
    rw [nc j hj2]
    unfold rdC
    rw [if_neg (by omega)])
  rcases hc with ⟨h1, h2, h3⟩ | ⟨h1, h2, h3, h4, h5⟩
  · show gV (if coF (cOf tm) len.toNat = -1 then ((len + 1) / 13, p, sh, ln, pr, gd, co, preF ((len + 1) / 13 * 12) (dgc (cOf tm)) c, preF 6 (inT ((len + 1) / 13)) s) else _) _
    obtain ⟨-, k2, k3⟩ : rs = -105 ∧ p2 = p ∧ K = 0 := by omega
    rw [if_pos h1, show (len + 1) / 13 = rv by omega, k3, rgF_0]
    rw [k2] at base ⊢
    exact base
  · show gV (if coF (cOf tm) len.toNat = -1 then _ else ((coF (cOf tm) len.toNat + 1) / 13, len - coF (cOf tm) len.toNat - 1, sh, ln, pr, gd, co, preF ((coF (cOf tm) len.toNat + 1) / 13 * 12) (dgc (cOf tm)) c, preF (len - coF (cOf tm) len.toNat - 1) (fun j => dgZ (cOf tm) (coF (cOf tm) len.toNat + 1 + j)) (preF 6 (inT ((coF (cOf tm) len.toNat + 1) / 13)) s))) _
    obtain ⟨k2, k3⟩ : p2 = rs ∧ K = rs := by omega
    rw [if_neg (by omega), show (coF (cOf tm) len.toNat + 1) / 13 = rv by omega, show len - coF (cOf tm) len.toNat - 1 = rs by omega, k3]
    rw [k2] at base ⊢
    refine gV_rgs base h3 (fun j hj => ?_)
    have b := h5 (j : Int) (by omega) hj
    show tm (oa + (((7 + j : Nat) : Int) - 7)).toNat - 48 = dgZ (cOf tm) (coF (cOf tm) len.toNat + 1 + (j : Int))
    rw [h1, show 13 * rv - 1 + 1 + (j : Int) = 13 * rv + (j : Int) by omega, dg_t (by omega), if_pos (by omega), h4, show 13 * rv + (((7 + j : Nat) : Int) - 7) = 13 * rv + (j : Int) by omega]

theorem badF_iff {t : Nat → Int} {tl q : Int} : badF t tl q ↔ badC (cOf t) tl q := Iff.rfl

set_option maxHeartbeats 4000000 in
theorem m_read (w : av_W) (v p sh ln pr gd co : Int) (c s : Nat → Int) (L : Nat → CV) (n : Int) (S : CV) (hs len : Int) (tm : Nat → Int) (g ke : Nat → Int) (h : REFG w g ke (v, p, sh, ln, pr, gd, co, c, s) L n S hs len (cOf tm)) (x41w : w.2.2 41 = arO 80 tm) (xR : TR tm) (hlen : 0 ≤ len ∧ len ≤ 80) (hW : KW (v, p, sh, ln, pr, gd, co, c, s)) (hn : 0 ≤ n ∧ n ≤ 4) (hL : ∀ i : Nat, (i : Int) < n → (L i).1 ≤ 4 ∧ (L i).2.1 ≤ 6) : cl MX5_read [.ref 33] w (fun r' w' => (∃ q : Int, badC (cOf tm) len q ∧ RM w w' r' (-200 - q) (v, p, sh, ln, pr, gd, co, c, s) L n S hs len (cOf tm)) ∨ (goodC (cOf tm) len ∧ RM w w' r' (rdV (v, p, sh, ln, pr, gd, co, c, s) (cOf tm) len).1 (rdV (v, p, sh, ln, pr, gd, co, c, s) (cOf tm) len) (recL L n (v, p, sh, ln, pr, gd, co, c, s)) (recN n) S hs len (cOf tm))) := by
  obtain ⟨x42, ⟨xsp, xrv, xrs, xoa, x33w⟩, ⟨x34w, xV⟩, x35w, -⟩ := id h
  have x33 : 33 < w.1 := by omega
  have x34 : 34 < w.1 := by omega
  have hV : KV (v, p, sh, ln, pr, gd, co, c, s) := hW.1
  have hSV : ∀ j : Nat, (j : Int) < p → s j < v := hW.2
  obtain ⟨hK, hS, hc, hpr⟩ := id hV
  have hK : KR v p sh ln := hK
  have hS : SR s := hS
  have hc : ∀ j : Nat, j < 48 → 0 ≤ c j ∧ c j ≤ 9 := hc
  have hpr : 0 ≤ pr ∧ pr ≤ 99999 := hpr
  obtain ⟨hv, hp, hsh, hln⟩ := id hK
  have xV2 : gV (v, p, sh, ln, pr, gd, co, c, s) g := xV
  obtain ⟨⟨e0, e1, e2, e3, e4, e5, e6⟩, -⟩ := id xV2
  have hGR : GR g := ⟨by omega, by omega, by omega, by omega⟩
  have hGS : GS g := gV_GS xV2 hS
  show rn MX5_read 0 [some (.ref 33), none, none, none] [] w _
  refine r_aload_n (pc2 := 1) dX5_read_0 rfl rfl ?_
  refine r_callv_0 (pc2 := 4) dX5_read_1 rfl rs_5_155 rfl (by decide) rfl (Nat.le_of_ble_eq_true rfl) (Nat.le_of_ble_eq_true rfl) (by assumption) (by assumption) (m_fault w x42 _ _ _ _ _ _ _ x33w tm x41w xR hlen) (fun r_ w_ h_ => ?_)
  have hfin : ∃ sp2 rv rs oa : Int, w_ = wst w 33 (mdO n hs len sp2 rv rs oa) ∧ ((∃ q : Int, badF tm len q ∧ r_ = some (.int (iN q))) ∨ (r_ = some (.int (iN (-105))) ∧ goodF tm len rv rs oa)) := by
    rcases h_ with ⟨q, hq, e, a, b, c1, d, ew⟩ | ⟨e, a, b, c1, d, hq, ew⟩
    · exact ⟨a, b, c1, d, ew, Or.inl ⟨q, hq, e⟩⟩
    · exact ⟨a, b, c1, d, ew, Or.inr ⟨e, hq⟩⟩
  obtain ⟨sp2, rv, rs, oa, eW, hres⟩ := hfin
  have hr0 : REFG w_ g ke (v, p, sh, ln, pr, gd, co, c, s) L n S hs len (cOf tm) := by rw [eW]; exact REFG_txt h
  have gf0 : agO 33 42 w w_ := by rw [eW]; exact agO.wst _ (by omega)
  have p33w : w_.2.2 33 = mdO n hs len sp2 rv rs oa := by rw [eW]; exact wst_self
  have p41w : w_.2.2 41 = arO 80 tm := by rw [eW]; exact (wst_ne (by decide)).trans x41w
  clear eW h_
  obtain ⟨wf, rfl⟩ : ∃ wf, wf = w_ := ⟨_, rfl⟩
  have f42 : 42 ≤ wf.1 := by rw [gf0.1]; exact x42
  have f33 : 33 < wf.1 := by omega
  rcases hres with ⟨q, hq, er⟩ | ⟨er, hgood⟩
  · rw [er]
    refine ⟨gf0.1, ?_⟩
    have hqr : 0 ≤ q ∧ q ≤ 80 := ⟨hq.1.1, by have := hq.1.2; omega⟩
    refine r_ist_1 (pc2 := 5) dX5_read_4 rfl rfl ?_
    refine r_iload_n (pc2 := 6) dX5_read_5 rfl rfl ?_
    refine r_bipush (pc2 := 8) dX5_read_6 rfl (by decide) ?_
    refine r_icmp_eq (pc2 := 11) (tgt := 17) dX5_read_8 rfl (by decide) (by omega) (by omega) (fun h8 => ?_) (fun h8 => ?_)
    · exfalso
      have := hq.1.1
      omega
    · refine r_sipush (pc2 := 14) dX5_read_11 rfl (by decide) ?_
      refine r_iload_n (pc2 := 15) dX5_read_14 rfl rfl ?_
      refine r_isub (pc2 := 16) dX5_read_15 rfl ?_
      refine r_ret dX5_read_16 rfl ?_
      exact Or.inl ⟨q, hq, rfl, gf0, g, ke, hr0⟩
  · rw [er]
    obtain ⟨-, -, hrv, hpat, hle, hcs⟩ := id hgood
    refine ⟨gf0.1, ?_⟩
    refine r_ist_1 (pc2 := 5) dX5_read_4 rfl rfl ?_
    refine r_iload_n (pc2 := 6) dX5_read_5 rfl rfl ?_
    refine r_bipush (pc2 := 8) dX5_read_6 rfl (by decide) ?_
    refine r_icmp_eq (pc2 := 11) (tgt := 17) dX5_read_8 rfl (by decide) (by omega) (by omega) (fun h8 => ?_) (fun h8 => ?_)
    · refine r_aload_n (pc2 := 18) dX5_read_17 rfl rfl ?_
      refine r_callv_0 (pc2 := 21) dX5_read_18 rfl rs_5_94 rfl (by decide) rfl (Nat.le_of_ble_eq_true rfl) (Nat.le_of_ble_eq_true rfl) (by assumption) (by assumption) (m_remD _ _ _ (v, p, sh, ln, pr, gd, co, c, s) _ _ _ _ _ _ hr0 ⟨hv.2, hp.2⟩) (fun r_ w_ h_ => ?_)
      obtain ⟨e_, gr, gf, ke2, hr, hke⟩ := h_
      rw [e_]
      clear e_
      obtain ⟨wr, rfl⟩ : ∃ wr, wr = w_ := ⟨_, rfl⟩
      obtain ⟨y42, ⟨ysp, yrv, yrs, yoa, y33w⟩, ⟨y34w, yV⟩, y35w, -⟩ := id hr
      have y33 : 33 < wr.1 := by omega
      have y34 : 34 < wr.1 := by omega
      have q33w : wr.2.2 33 = mdO n hs len sp2 rv rs oa := (gf 33 (by decide)).trans p33w
      have q41w : wr.2.2 41 = arO 80 tm := (gf 41 (by decide)).trans p41w
      have y41 : 41 < wr.1 := by omega
      clear y33w
      refine ⟨gr.1, ?_⟩
      refine r_aload_n (pc2 := 22) dX5_read_21 rfl rfl ?_
      refine r_getf (pc2 := 25) dX5_read_22 rfl fl_5_7 (by assumption) (by assumption) (by rfl) ?_
      refine r_iconst (pc2 := 26) dX5_read_25 rfl ?_
      refine r_aload_n (pc2 := 27) dX5_read_26 rfl rfl ?_
      refine r_getf (pc2 := 30) dX5_read_27 rfl fl_5_140 (by assumption) (by assumption) (by rfl) ?_
      have z33w := q33w
      refine r_iast (pc2 := 31) dX5_read_30 rfl (by assumption) (by assumption) (by omega) (by omega) (by omega) ?_
      have z33 : 33 < (wst wr 34 (arO 61 (updZ g (0 : Int).toNat rv))).1 := y33
      refine r_iconst (pc2 := 32) dX5_read_31 rfl ?_
      refine r_ist_2 (pc2 := 33) dX5_read_32 rfl rfl ?_
      have tail : ∀ (p2 K : Int), ((rs = -105 ∧ p2 = p ∧ K = 0) ∨ (rs ≠ -105 ∧ p2 = rs ∧ K = rs)) → ∀ l3 : Option Value, rn MX5_read 125 [some (.ref 33), some (.int (iN (-105))), some (.int (iN 4)), l3] [.int (iN p2), .int (iN 1), .ref 34] (wst wr 34 (arO 61 (rgF 13 (12 * 4) (rdC rv tm) (updZ g (0 : Int).toNat rv)))) (fun r' w' => (∃ q : Int, badC (cOf tm) len q ∧ RM w w' r' (-200 - q) (v, p, sh, ln, pr, gd, co, c, s) L n S hs len (cOf tm)) ∨ (goodC (cOf tm) len ∧ RM w w' r' (rdV (v, p, sh, ln, pr, gd, co, c, s) (cOf tm) len).1 (rdV (v, p, sh, ln, pr, gd, co, c, s) (cOf tm) len) (recL L n (v, p, sh, ln, pr, gd, co, c, s)) (recN n) S hs len (cOf tm))) := by
        intro p2 K hK l3
        have hKb : (rs = -105 → K = 0) ∧ (0 ≤ K ∧ K ≤ 6) ∧ (2 ≤ p2 ∧ p2 ≤ 6) := by omega
        have z33 : 33 < (wst wr 34 (arO 61 (rgF 13 (12 * 4) (rdC rv tm) (updZ g (0 : Int).toNat rv)))).1 := y33
        have z33w : (wst wr 34 (arO 61 (rgF 13 (12 * 4) (rdC rv tm) (updZ g (0 : Int).toNat rv)))).2.2 33 = mdO n hs len sp2 rv rs oa := (wst_ne (by decide)).trans q33w
        have z34 : 34 < (wst wr 34 (arO 61 (rgF 13 (12 * 4) (rdC rv tm) (updZ g (0 : Int).toNat rv)))).1 := y34
        have z34w : (wst wr 34 (arO 61 (rgF 13 (12 * 4) (rdC rv tm) (updZ g (0 : Int).toNat rv)))).2.2 34 = arO 61 (rgF 13 (12 * 4) (rdC rv tm) (updZ g (0 : Int).toNat rv)) := wst_self
        have z41 : 41 < (wst wr 34 (arO 61 (rgF 13 (12 * 4) (rdC rv tm) (updZ g (0 : Int).toNat rv)))).1 := y41
        have z41w : (wst wr 34 (arO 61 (rgF 13 (12 * 4) (rdC rv tm) (updZ g (0 : Int).toNat rv)))).2.2 41 = arO 80 tm := (wst_ne (by decide)).trans q41w
        refine r_iast (pc2 := 126) dX5_read_125 rfl (by assumption) (by assumption) (by omega) (by omega) (by omega) ?_
        rw [wst_wst]
        have z33 : 33 < (wst wr 34 (arO 61 (updZ (rgF 13 (12 * 4) (rdC rv tm) (updZ g (0 : Int).toNat rv)) (1 : Int).toNat p2))).1 := y33
        have z33w : (wst wr 34 (arO 61 (updZ (rgF 13 (12 * 4) (rdC rv tm) (updZ g (0 : Int).toNat rv)) (1 : Int).toNat p2))).2.2 33 = mdO n hs len sp2 rv rs oa := (wst_ne (by decide)).trans q33w
        have z34 : 34 < (wst wr 34 (arO 61 (updZ (rgF 13 (12 * 4) (rdC rv tm) (updZ g (0 : Int).toNat rv)) (1 : Int).toNat p2))).1 := y34
        have z34w : (wst wr 34 (arO 61 (updZ (rgF 13 (12 * 4) (rdC rv tm) (updZ g (0 : Int).toNat rv)) (1 : Int).toNat p2))).2.2 34 = arO 61 (updZ (rgF 13 (12 * 4) (rdC rv tm) (updZ g (0 : Int).toNat rv)) (1 : Int).toNat p2) := wst_self
        have z41 : 41 < (wst wr 34 (arO 61 (updZ (rgF 13 (12 * 4) (rdC rv tm) (updZ g (0 : Int).toNat rv)) (1 : Int).toNat p2))).1 := y41
        have z41w : (wst wr 34 (arO 61 (updZ (rgF 13 (12 * 4) (rdC rv tm) (updZ g (0 : Int).toNat rv)) (1 : Int).toNat p2))).2.2 41 = arO 80 tm := (wst_ne (by decide)).trans q41w
        have ne : ∀ j : Nat, (2 ≤ j ∧ j < 13) → (updZ (rgF 13 (12 * 4) (rdC rv tm) (updZ g (0 : Int).toNat rv)) (1 : Int).toNat p2) j = g j := fun j hj => (if_neg (show ¬ j = (1 : Int).toNat by omega)).trans ((rgF_out (by omega)).trans (if_neg (show ¬ j = (0 : Int).toNat by omega)))
        have n0 : (updZ (rgF 13 (12 * 4) (rdC rv tm) (updZ g (0 : Int).toNat rv)) (1 : Int).toNat p2) 0 = rv := (if_neg (by decide)).trans ((rgF_out (by omega)).trans rfl)
        have n1 : (updZ (rgF 13 (12 * 4) (rdC rv tm) (updZ g (0 : Int).toNat rv)) (1 : Int).toNat p2) 1 = p2 := rfl
        have hGA : GR (updZ (rgF 13 (12 * 4) (rdC rv tm) (updZ g (0 : Int).toNat rv)) (1 : Int).toNat p2) := ⟨by rw [n0]; exact hrv, by rw [n1]; omega, by rw [ne 2 (by omega), e2]; exact hsh, by rw [ne 3 (by omega), e3]; exact hln⟩
        refine r_aload_n (pc2 := 127) dX5_read_126 rfl rfl ?_
        refine r_callv_0 (pc2 := 130) dX5_read_127 rfl rs_5_34 rfl (by decide) rfl (Nat.le_of_ble_eq_true rfl) (Nat.le_of_ble_eq_true rfl) (by assumption) (by assumption) (m_ordersAsFirst (wst wr 34 (arO 61 (updZ (rgF 13 (12 * 4) (rdC rv tm) (updZ g (0 : Int).toNat rv)) (1 : Int).toNat p2))) y42 _ _ _ _ _ _ _ z33w (updZ (rgF 13 (12 * 4) (rdC rv tm) (updZ g (0 : Int).toNat rv)) (1 : Int).toNat p2) wst_self hGA) (fun r_ w_ h_ => ?_)
        rw [h_.1, h_.2, n0, n1, wst_wst]
        clear h_ w_ r_
        refine ⟨rfl, ?_⟩
        refine r_iconst (pc2 := 131) dX5_read_130 rfl ?_
        refine r_ist_2 (pc2 := 132) dX5_read_131 rfl rfl ?_
        have lp3 : ∀ (m : Nat) (k : Int) (l3 : Option Value), ((0 ≤ k ∧ k ≤ K) ∧ K + 1 ≤ k + m) → rn MX5_read 132 [some (.ref 33), some (.int (iN (-105))), some (.int (iN k)), l3] [] (wst wr 34 (arO 61 (rgF 7 k (rdS oa tm) (rgF 7 6 (oaF rv p2) (updZ (rgF 13 (12 * 4) (rdC rv tm) (updZ g (0 : Int).toNat rv)) (1 : Int).toNat p2))))) (fun r' w' => (∃ q : Int, badC (cOf tm) len q ∧ RM w w' r' (-200 - q) (v, p, sh, ln, pr, gd, co, c, s) L n S hs len (cOf tm)) ∨ (goodC (cOf tm) len ∧ RM w w' r' (rdV (v, p, sh, ln, pr, gd, co, c, s) (cOf tm) len).1 (rdV (v, p, sh, ln, pr, gd, co, c, s) (cOf tm) len) (recL L n (v, p, sh, ln, pr, gd, co, c, s)) (recN n) S hs len (cOf tm))) := by
          intro m
          induction m with
          | zero =>
            intro k l3 hk0
            exfalso
            omega
          | succ m ih =>
            intro k l3 hk0
            have z33 : 33 < (wst wr 34 (arO 61 (rgF 7 k (rdS oa tm) (rgF 7 6 (oaF rv p2) (updZ (rgF 13 (12 * 4) (rdC rv tm) (updZ g (0 : Int).toNat rv)) (1 : Int).toNat p2))))).1 := y33
            have z33w : (wst wr 34 (arO 61 (rgF 7 k (rdS oa tm) (rgF 7 6 (oaF rv p2) (updZ (rgF 13 (12 * 4) (rdC rv tm) (updZ g (0 : Int).toNat rv)) (1 : Int).toNat p2))))).2.2 33 = mdO n hs len sp2 rv rs oa := (wst_ne (by decide)).trans q33w
            have z34 : 34 < (wst wr 34 (arO 61 (rgF 7 k (rdS oa tm) (rgF 7 6 (oaF rv p2) (updZ (rgF 13 (12 * 4) (rdC rv tm) (updZ g (0 : Int).toNat rv)) (1 : Int).toNat p2))))).1 := y34
            have z34w : (wst wr 34 (arO 61 (rgF 7 k (rdS oa tm) (rgF 7 6 (oaF rv p2) (updZ (rgF 13 (12 * 4) (rdC rv tm) (updZ g (0 : Int).toNat rv)) (1 : Int).toNat p2))))).2.2 34 = arO 61 (rgF 7 k (rdS oa tm) (rgF 7 6 (oaF rv p2) (updZ (rgF 13 (12 * 4) (rdC rv tm) (updZ g (0 : Int).toNat rv)) (1 : Int).toNat p2))) := wst_self
            have z41 : 41 < (wst wr 34 (arO 61 (rgF 7 k (rdS oa tm) (rgF 7 6 (oaF rv p2) (updZ (rgF 13 (12 * 4) (rdC rv tm) (updZ g (0 : Int).toNat rv)) (1 : Int).toNat p2))))).1 := y41
            have z41w : (wst wr 34 (arO 61 (rgF 7 k (rdS oa tm) (rgF 7 6 (oaF rv p2) (updZ (rgF 13 (12 * 4) (rdC rv tm) (updZ g (0 : Int).toNat rv)) (1 : Int).toNat p2))))).2.2 41 = arO 80 tm := (wst_ne (by decide)).trans q41w
            refine r_iload_n (pc2 := 133) dX5_read_132 rfl rfl ?_
            refine r_aload_n (pc2 := 134) dX5_read_133 rfl rfl ?_
            refine r_getf (pc2 := 137) dX5_read_134 rfl fl_5_143 (by assumption) (by assumption) (by rfl) ?_
            refine r_icmp_ge (pc2 := 140) (tgt := 169) dX5_read_137 rfl (by decide) (by omega) (by omega) (fun h137 => ?_) (fun h137 => ?_)
            · have h6 : k = K := by omega
              subst h6
              refine r_aload_n (pc2 := 170) dX5_read_169 rfl rfl ?_
              refine r_aload_n (pc2 := 171) dX5_read_170 rfl rfl ?_
              refine r_getf (pc2 := 174) dX5_read_171 rfl fl_5_140 (by assumption) (by assumption) (by rfl) ?_
              refine r_callv_1 (pc2 := 177) dX5_read_174 rfl rs_5_97 rfl (by decide) rfl (Nat.le_of_ble_eq_true rfl) (Nat.le_of_ble_eq_true rfl) (by assumption) (by assumption) (m_actC _ _ ke2 (rdV (v, p, sh, ln, pr, gd, co, c, s) (cOf tm) len) (v, p, sh, ln, pr, gd, co, c, s) L n S hs len (cOf tm) (REFG_34 hr (gV_rd xV2 hp hgood hK)) ⟨hv.2, hp.2⟩ hke hL hn rv) (fun r_ w_ h_ => ?_)
              rw [h_.1]
              refine ⟨h_.2.1.1, ?_⟩
              refine r_ret dX5_read_177 rfl ?_
              refine Or.inr ⟨⟨hgood.1, hgood.2.1⟩, ?_, ?_, h_.2.2⟩
              · rw [rd_1 hgood]
              · exact ((gf0.trans gr).trans (agO.wst _ (by omega))).trans h_.2.1
            · refine r_aload_n (pc2 := 141) dX5_read_140 rfl rfl ?_
              refine r_getf (pc2 := 144) dX5_read_141 rfl fl_5_7 (by assumption) (by assumption) (by rfl) ?_
              refine r_bipush (pc2 := 146) dX5_read_144 rfl (by decide) ?_
              refine r_iload_n (pc2 := 147) dX5_read_146 rfl rfl ?_
              refine r_iadd (pc2 := 148) dX5_read_147 rfl ?_
              refine r_aload_n (pc2 := 149) dX5_read_148 rfl rfl ?_
              refine r_getf (pc2 := 152) dX5_read_149 rfl fl_5_31 (by assumption) (by assumption) (by rfl) ?_
              refine r_aload_n (pc2 := 153) dX5_read_152 rfl rfl ?_
              refine r_getf (pc2 := 156) dX5_read_153 rfl fl_5_152 (by assumption) (by assumption) (by rfl) ?_
              refine r_iload_n (pc2 := 157) dX5_read_156 rfl rfl ?_
              refine r_iadd (pc2 := 158) dX5_read_157 rfl ?_
              have htm := xR (oa + k).toNat (by omega)
              refine r_iald (pc2 := 159) dX5_read_158 rfl (by decide) (by assumption) (by assumption) (by omega) (by omega) (by omega) ?_
              refine r_bipush (pc2 := 161) dX5_read_159 rfl (by decide) ?_
              refine r_isub (pc2 := 162) dX5_read_161 rfl ?_
              refine r_iast (pc2 := 163) dX5_read_162 rfl (by assumption) (by assumption) (by omega) (by omega) (by omega) ?_
              rw [wst_wst, rds_st hk0.1.1]
              refine r_iinc_2 (pc2 := 166) dX5_read_163 rfl rfl ?_
              refine r_goto (tgt := 132) dX5_read_166 (by decide) ?_
              exact ih (k + 1) _ (by omega)
        have q := lp3 (K.toNat + 1) 0 l3 (by omega)
        rw [rgF_0] at q
        exact q
      have outer : ∀ (m : Nat) (x : Int) (l3 : Option Value), ((0 ≤ x ∧ x ≤ 4) ∧ 5 ≤ x + m) → rn MX5_read 33 [some (.ref 33), some (.int (iN (-105))), some (.int (iN x)), l3] [] (wst wr 34 (arO 61 (rgF 13 (12 * x) (rdC rv tm) (updZ g (0 : Int).toNat rv)))) (fun r' w' => (∃ q : Int, badC (cOf tm) len q ∧ RM w w' r' (-200 - q) (v, p, sh, ln, pr, gd, co, c, s) L n S hs len (cOf tm)) ∨ (goodC (cOf tm) len ∧ RM w w' r' (rdV (v, p, sh, ln, pr, gd, co, c, s) (cOf tm) len).1 (rdV (v, p, sh, ln, pr, gd, co, c, s) (cOf tm) len) (recL L n (v, p, sh, ln, pr, gd, co, c, s)) (recN n) S hs len (cOf tm))) := by
        intro m
        induction m with
        | zero =>
          intro x l3 hk0
          exfalso
          omega
        | succ m ih =>
          intro x l3 hk0
          refine r_iload_n (pc2 := 34) dX5_read_33 rfl rfl ?_
          refine r_iconst (pc2 := 35) dX5_read_34 rfl ?_
          refine r_icmp_ge (pc2 := 38) (tgt := 98) dX5_read_35 rfl (by decide) (by omega) (by omega) (fun h35 => ?_) (fun h35 => ?_)
          · have h6 : x = 4 := by omega
            subst h6
            have z33 : 33 < (wst wr 34 (arO 61 (rgF 13 (12 * 4) (rdC rv tm) (updZ g (0 : Int).toNat rv)))).1 := y33
            have z33w : (wst wr 34 (arO 61 (rgF 13 (12 * 4) (rdC rv tm) (updZ g (0 : Int).toNat rv)))).2.2 33 = mdO n hs len sp2 rv rs oa := (wst_ne (by decide)).trans q33w
            have z34 : 34 < (wst wr 34 (arO 61 (rgF 13 (12 * 4) (rdC rv tm) (updZ g (0 : Int).toNat rv)))).1 := y34
            have z34w : (wst wr 34 (arO 61 (rgF 13 (12 * 4) (rdC rv tm) (updZ g (0 : Int).toNat rv)))).2.2 34 = arO 61 (rgF 13 (12 * 4) (rdC rv tm) (updZ g (0 : Int).toNat rv)) := wst_self
            have z41 : 41 < (wst wr 34 (arO 61 (rgF 13 (12 * 4) (rdC rv tm) (updZ g (0 : Int).toNat rv)))).1 := y41
            have z41w : (wst wr 34 (arO 61 (rgF 13 (12 * 4) (rdC rv tm) (updZ g (0 : Int).toNat rv)))).2.2 41 = arO 80 tm := (wst_ne (by decide)).trans q41w
            refine r_aload_n (pc2 := 99) dX5_read_98 rfl rfl ?_
            refine r_getf (pc2 := 102) dX5_read_99 rfl fl_5_7 (by assumption) (by assumption) (by rfl) ?_
            refine r_iconst (pc2 := 103) dX5_read_102 rfl ?_
            refine r_aload_n (pc2 := 104) dX5_read_103 rfl rfl ?_
            refine r_getf (pc2 := 107) dX5_read_104 rfl fl_5_143 (by assumption) (by assumption) (by rfl) ?_
            refine r_bipush (pc2 := 109) dX5_read_107 rfl (by decide) ?_
            refine r_icmp_ne (pc2 := 112) (tgt := 121) dX5_read_109 rfl (by decide) (by omega) (by omega) (fun h109 => ?_) (fun h109 => ?_)
            · refine r_aload_n (pc2 := 122) dX5_read_121 rfl rfl ?_
              refine r_getf (pc2 := 125) dX5_read_122 rfl fl_5_143 (by assumption) (by assumption) (by rfl) ?_
              first
                | exact tail p 0 (Or.inl ⟨by omega, rfl, rfl⟩) _
                | exact tail rs rs (Or.inr ⟨by omega, rfl, rfl⟩) _
            · refine r_aload_n (pc2 := 113) dX5_read_112 rfl rfl ?_
              refine r_getf (pc2 := 116) dX5_read_113 rfl fl_5_7 (by assumption) (by assumption) (by rfl) ?_
              refine r_iconst (pc2 := 117) dX5_read_116 rfl ?_
              refine r_ialk (k := 1) (pc2 := 118) dX5_read_117 rfl (by decide) (by assumption) (by assumption) (by omega) (by omega) (by omega) (by decide) ?_
              rw [show (rgF 13 (12 * 4) (rdC rv tm) (updZ g (0 : Int).toNat rv)) 1 = p from (rgF_out (by omega)).trans ((if_neg (by decide)).trans e1)]
              refine r_goto (tgt := 125) dX5_read_118 (by decide) ?_
              first
                | exact tail p 0 (Or.inl ⟨by omega, rfl, rfl⟩) _
                | exact tail rs rs (Or.inr ⟨by omega, rfl, rfl⟩) _
          · have inner : ∀ (m2 : Nat) (y : Int), ((0 ≤ y ∧ y ≤ 12) ∧ 13 ≤ y + m2) → rn MX5_read 40 [some (.ref 33), some (.int (iN (-105))), some (.int (iN x)), some (.int (iN y))] [] (wst wr 34 (arO 61 (rgF 13 (12 * x + y) (rdC rv tm) (updZ g (0 : Int).toNat rv)))) (fun r' w' => (∃ q : Int, badC (cOf tm) len q ∧ RM w w' r' (-200 - q) (v, p, sh, ln, pr, gd, co, c, s) L n S hs len (cOf tm)) ∨ (goodC (cOf tm) len ∧ RM w w' r' (rdV (v, p, sh, ln, pr, gd, co, c, s) (cOf tm) len).1 (rdV (v, p, sh, ln, pr, gd, co, c, s) (cOf tm) len) (recL L n (v, p, sh, ln, pr, gd, co, c, s)) (recN n) S hs len (cOf tm))) := by
              intro m2
              induction m2 with
              | zero =>
                intro y hl0
                exfalso
                omega
              | succ m2 ih2 =>
                intro y hl0
                have z33 : 33 < (wst wr 34 (arO 61 (rgF 13 (12 * x + y) (rdC rv tm) (updZ g (0 : Int).toNat rv)))).1 := y33
                have z33w : (wst wr 34 (arO 61 (rgF 13 (12 * x + y) (rdC rv tm) (updZ g (0 : Int).toNat rv)))).2.2 33 = mdO n hs len sp2 rv rs oa := (wst_ne (by decide)).trans q33w
                have z34 : 34 < (wst wr 34 (arO 61 (rgF 13 (12 * x + y) (rdC rv tm) (updZ g (0 : Int).toNat rv)))).1 := y34
                have z34w : (wst wr 34 (arO 61 (rgF 13 (12 * x + y) (rdC rv tm) (updZ g (0 : Int).toNat rv)))).2.2 34 = arO 61 (rgF 13 (12 * x + y) (rdC rv tm) (updZ g (0 : Int).toNat rv)) := wst_self
                have z41 : 41 < (wst wr 34 (arO 61 (rgF 13 (12 * x + y) (rdC rv tm) (updZ g (0 : Int).toNat rv)))).1 := y41
                have z41w : (wst wr 34 (arO 61 (rgF 13 (12 * x + y) (rdC rv tm) (updZ g (0 : Int).toNat rv)))).2.2 41 = arO 80 tm := (wst_ne (by decide)).trans q41w
                refine r_iload_n (pc2 := 41) dX5_read_40 rfl rfl ?_
                refine r_bipush (pc2 := 43) dX5_read_41 rfl (by decide) ?_
                refine r_icmp_ge (pc2 := 46) (tgt := 92) dX5_read_43 rfl (by decide) (by omega) (by omega) (fun h43 => ?_) (fun h43 => ?_)
                · have h6 : y = 12 := by omega
                  subst h6
                  rw [show 12 * x + 12 = 12 * (x + 1) by omega]
                  refine r_iinc_2 (pc2 := 95) dX5_read_92 rfl rfl ?_
                  refine r_goto (tgt := 33) dX5_read_95 (by decide) ?_
                  exact ih (x + 1) _ (by omega)
                · refine r_aload_n (pc2 := 47) dX5_read_46 rfl rfl ?_
                  refine r_getf (pc2 := 50) dX5_read_47 rfl fl_5_7 (by assumption) (by assumption) (by rfl) ?_
                  refine r_bipush (pc2 := 52) dX5_read_50 rfl (by decide) ?_
                  refine r_bipush (pc2 := 54) dX5_read_52 rfl (by decide) ?_
                  refine r_iload_n (pc2 := 55) dX5_read_54 rfl rfl ?_
                  refine r_imul (pc2 := 56) dX5_read_55 rfl ?_
                  refine r_iadd (pc2 := 57) dX5_read_56 rfl ?_
                  refine r_iload_n (pc2 := 58) dX5_read_57 rfl rfl ?_
                  refine r_iadd (pc2 := 59) dX5_read_58 rfl ?_
                  refine r_iload_n (pc2 := 60) dX5_read_59 rfl rfl ?_
                  refine r_aload_n (pc2 := 61) dX5_read_60 rfl rfl ?_
                  refine r_getf (pc2 := 64) dX5_read_61 rfl fl_5_140 (by assumption) (by assumption) (by rfl) ?_
                  refine r_icmp_ge (pc2 := 67) (tgt := 84) dX5_read_64 rfl (by decide) (by omega) (by omega) (fun h64 => ?_) (fun h64 => ?_)
                  · have hb := rdC_f (rv := rv) (x := x) (y := y) (tm := tm) (by omega) (by omega) (by omega)
                    refine r_iconst (pc2 := 85) dX5_read_84 rfl ?_
                    refine r_iast (pc2 := 86) dX5_read_85 rfl (by assumption) (by assumption) (by omega) (by omega) (by omega) ?_
                    rw [wst_wst, rd_st (by omega) (by omega) hb, show 12 * x + y + 1 = 12 * x + (y + 1) by omega]
                    refine r_iinc_3 (pc2 := 89) dX5_read_86 rfl rfl ?_
                    refine r_goto (tgt := 40) dX5_read_89 (by decide) ?_
                    exact ih2 (y + 1) (by omega)
                  · have hb := rdC_t (rv := rv) (x := x) (y := y) (tm := tm) (by omega) (by omega)
                    refine r_aload_n (pc2 := 68) dX5_read_67 rfl rfl ?_
                    refine r_getf (pc2 := 71) dX5_read_68 rfl fl_5_31 (by assumption) (by assumption) (by rfl) ?_
                    refine r_bipush (pc2 := 73) dX5_read_71 rfl (by decide) ?_
                    refine r_iload_n (pc2 := 74) dX5_read_73 rfl rfl ?_
                    refine r_imul (pc2 := 75) dX5_read_74 rfl ?_
                    refine r_iload_n (pc2 := 76) dX5_read_75 rfl rfl ?_
                    refine r_iadd (pc2 := 77) dX5_read_76 rfl ?_
                    have htm := xR (13 * x + y).toNat (by omega)
                    refine r_iald (pc2 := 78) dX5_read_77 rfl (by decide) (by assumption) (by assumption) (by omega) (by omega) (by omega) ?_
                    refine r_bipush (pc2 := 80) dX5_read_78 rfl (by decide) ?_
                    refine r_isub (pc2 := 81) dX5_read_80 rfl ?_
                    refine r_goto (tgt := 85) dX5_read_81 (by decide) ?_
                    refine r_iast (pc2 := 86) dX5_read_85 rfl (by assumption) (by assumption) (by omega) (by omega) (by omega) ?_
                    rw [wst_wst, rd_st (by omega) (by omega) hb, show 12 * x + y + 1 = 12 * x + (y + 1) by omega]
                    refine r_iinc_3 (pc2 := 89) dX5_read_86 rfl rfl ?_
                    refine r_goto (tgt := 40) dX5_read_89 (by decide) ?_
                    exact ih2 (y + 1) (by omega)
            refine r_iconst (pc2 := 39) dX5_read_38 rfl ?_
            refine r_ist_3 (pc2 := 40) dX5_read_39 rfl rfl ?_
            have q := inner 13 0 (by omega)
            rw [Int.add_zero] at q
            exact q
      have q := outer 5 0 none (by omega)
      rw [show (12 : Int) * 0 = 0 by decide, rgF_0] at q
      exact q
    · exact absurd rfl h8
