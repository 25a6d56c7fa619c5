/-! the reference: texts -/
theorem REFG_txt {w : av_W} {g ke : Nat → Int} {V : CV} {L : Nat → CV} {n : Int} {S : CV} {hs len : Int} {t : Nat → Int} {len2 sp rv rs oa : Int} (h : REFG w g ke V L n S hs len t) : REFG (wst w 33 (mdO n hs len2 sp rv rs oa)) g ke V L n S hs len2 t := by
  obtain ⟨a0, -, ⟨a2, a2b⟩, a3, ⟨H, a4, a5⟩, ⟨Sn, a6, a7⟩, ⟨so, a8⟩, ⟨be, a9⟩, ⟨hd, b1⟩, ⟨tm, b2, b3⟩⟩ := h
  exact ⟨a0, ⟨sp, rv, rs, oa, wst_self⟩, ⟨(wst_ne (by decide)).trans a2, a2b⟩, (wst_ne (by decide)).trans a3, ⟨H, (wst_ne (by decide)).trans a4, a5⟩, ⟨Sn, (wst_ne (by decide)).trans a6, a7⟩, ⟨so, (wst_ne (by decide)).trans a8⟩, ⟨be, (wst_ne (by decide)).trans a9⟩, ⟨hd, (wst_ne (by decide)).trans b1⟩, ⟨tm, (wst_ne (by decide)).trans b2, b3⟩⟩

set_option maxHeartbeats 4000000 in
theorem m_clearText (w : av_W) (v p sh ln pr gd co : Int) (c s : Nat → Int) (L : Nat → CV) (n : Int) (S : CV) (hs len : Int) (t : Nat → Int) (g ke : Nat → Int) (h : REFG w g ke (v, p, sh, ln, pr, gd, co, c, s) L n S hs len t) (hV : KV (v, p, sh, ln, pr, gd, co, c, s)) (hn : 0 ≤ n ∧ n ≤ 4) (hL : ∀ i : Nat, (i : Int) < n → (L i).1 ≤ 4 ∧ (L i).2.1 ≤ 6) : cl MX5_clearText [.ref 33] w (fun r' w' => RM w w' r' len (v, p, sh, ln, pr, gd, co, c, s) L n S hs 0 t) := by
  obtain ⟨x42, ⟨xsp, xrv, xrs, xoa, x33w⟩, ⟨x34w, xV⟩, x35w, -⟩ := id h
  have x33 : 33 < w.1 := by omega
  have x34 : 34 < w.1 := by omega
  show rn MX5_clearText 0 [some (.ref 33), none] [] w _
  refine r_aload_n (pc2 := 1) dX5_clearText_0 rfl rfl ?_
  refine r_getf (pc2 := 4) dX5_clearText_1 rfl fl_5_131 (by assumption) (by assumption) (by rfl) ?_
  refine r_ist_1 (pc2 := 5) dX5_clearText_4 rfl rfl ?_
  refine r_aload_n (pc2 := 6) dX5_clearText_5 rfl rfl ?_
  refine r_iconst (pc2 := 7) dX5_clearText_6 rfl ?_
  refine r_putf (pc2 := 10) dX5_clearText_7 rfl fl_5_131 (by assumption) (by assumption) (by exact Nat.le_of_ble_eq_true rfl) (by rfl) (by rfl) (by rfl) ?_
  refine r_iload_n (pc2 := 11) dX5_clearText_10 rfl rfl ?_
  refine r_ret dX5_clearText_11 rfl ?_
  exact ⟨rfl, agO.wst _ (by omega), g, ke, REFG_txt h⟩
