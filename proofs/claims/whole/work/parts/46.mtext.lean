/-! the reference: texts -/
theorem REFG_txt {w : av_W} {g ke : Nat → Int} {V : CV} {L : Nat → CV} {n : Int} {S : CV} {hs len : Int} {t : Nat → Int} {len2 sp rv rs oa : Int} (h : REFG w g ke V L n S hs len t) : REFG (wst w 33 (mdO n hs len2 sp rv rs oa)) g ke V L n S hs len2 t := by
  obtain ⟨a0, -, ⟨a2, a2b⟩, a3, ⟨H, a4, a5⟩, ⟨Sn, a6, a7⟩, ⟨so, a8⟩, ⟨be, a9⟩, ⟨hd, b1⟩, ⟨tm, b2, b3⟩⟩ := h
  exact ⟨a0, ⟨sp, rv, rs, oa, wst_self⟩, ⟨(wst_ne (by decide)).trans a2, a2b⟩, (wst_ne (by decide)).trans a3, ⟨H, (wst_ne (by decide)).trans a4, a5⟩, ⟨Sn, (wst_ne (by decide)).trans a6, a7⟩, ⟨so, (wst_ne (by decide)).trans a8⟩, ⟨be, (wst_ne (by decide)).trans a9⟩, ⟨hd, (wst_ne (by decide)).trans b1⟩, ⟨tm, (wst_ne (by decide)).trans b2, b3⟩⟩

set_option maxHeartbeats 4000000 in
theorem m_clearText (w : av_W) (v p sh ln pr gd co : Int) (c s : Nat → Int) (L : Nat → CV) (n : Int) (S : CV) (hs len : Int) (t : Nat → Int) (g ke : Nat → Int) (h : REFG w g ke (v, p, sh, ln, pr, gd, co, c, s) L n S hs len t) (hV : KV (v, p, sh, ln, pr, gd, co, c, s)) (hn : 0 ≤ n ∧ n ≤ 4) (hL : ∀ i : Nat, (i : Int) < n → (L i).1 ≤ 4 ∧ (L i).2.1 ≤ 6) : cl MX5_clearText [.ref 33] w (fun r' w' => RM w w' r' len (v, p, sh, ln, pr, gd, co, c, s) L n S hs 0 t) := by
  obtain ⟨x42, ⟨xsp, xrv, xrs, xoa, x33w⟩, ⟨x34w, xV⟩, x35w, -⟩ := id h
  have x33 : 33 < w.1 := by omega
  have x34 : 34 < w.1 := by omega
  show rn MX5_clearText 0 [some (.ref 33), none] [] w _
  refine r_aload_n (pc2 := 1) dX5_clearText_0 rfl rfl ?_
  refine r_getf (pc2 := 4) dX5_clearText_1 rfl fl_5_131 (by assumption) (by assumption) (by rfl) ?_
  refine r_ist_1 (pc2 := 5) dX5_clearText_4 rfl rfl ?_
  refine r_aload_n (pc2 := 6) dX5_clearText_5 rfl rfl ?_
  refine r_iconst (pc2 := 7) dX5_clearText_6 rfl ?_
  refine r_putf (pc2 := 10) dX5_clearText_7 rfl fl_5_131 (by assumption) (by assumption) (by exact Nat.le_of_ble_eq_true rfl) (by rfl) (by rfl) (by rfl) ?_
  refine r_iload_n (pc2 := 11) dX5_clearText_10 rfl rfl ?_
  refine r_ret dX5_clearText_11 rfl ?_
  exact ⟨rfl, agO.wst _ (by omega), g, ke, REFG_txt h⟩

theorem cOf_upd {tm : Nat → Int} {k : Nat} {x : Int} : updZ (cOf tm) k (if x ≤ 255 then x else 0) = cOf (updZ tm k x) := by
  funext j
  show (if j = k then (if x ≤ 255 then x else 0) else cOf tm j) = (if (if j = k then x else tm j) ≤ 255 then (if j = k then x else tm j) else 0)
  by_cases h : j = k
  · rw [if_pos h, if_pos h]
  · rw [if_neg h, if_neg h]
    rfl

set_option maxHeartbeats 4000000 in
theorem m_type (w : av_W) (v p sh ln pr gd co : Int) (c s : Nat → Int) (L : Nat → CV) (n : Int) (S : CV) (hs len : Int) (t : Nat → Int) (g ke : Nat → Int) (h : REFG w g ke (v, p, sh, ln, pr, gd, co, c, s) L n S hs len t) (hV : KV (v, p, sh, ln, pr, gd, co, c, s)) (hn : 0 ≤ n ∧ n ≤ 4) (hL : ∀ i : Nat, (i : Int) < n → (L i).1 ≤ 4 ∧ (L i).2.1 ≤ 6) (hlen : 0 ≤ len ∧ len ≤ 80) (x : Int) (hx : 0 ≤ x ∧ x ≤ 65535) : cl MX5_type [.ref 33, .int (iN x)] w (fun r' w' => if 80 ≤ len then RM w w' r' (-103) (v, p, sh, ln, pr, gd, co, c, s) L n S hs len t else RM w w' r' (len + 1) (v, p, sh, ln, pr, gd, co, c, s) L n S hs (len + 1) (updZ t len.toNat (if x ≤ 255 then x else 0))) := by
  obtain ⟨x42, ⟨xsp, xrv, xrs, xoa, x33w⟩, ⟨x34w, xV⟩, x35w, -⟩ := id h
  have x33 : 33 < w.1 := by omega
  have x34 : 34 < w.1 := by omega
  obtain ⟨-, -, ⟨-, a2b⟩, -, ⟨H, a4, a5⟩, ⟨Sn, a6, a7⟩, ⟨so, a8⟩, ⟨be, a9⟩, ⟨hd, b1⟩, ⟨tm, x41w, b2, b3⟩⟩ := id h
  have x41 : 41 < w.1 := by omega
  show rn MX5_type 0 [some (.ref 33), some (.int (iN x))] [] w _
  refine r_aload_n (pc2 := 1) dX5_type_0 rfl rfl ?_
  refine r_getf (pc2 := 4) dX5_type_1 rfl fl_5_131 (by assumption) (by assumption) (by rfl) ?_
  refine r_bipush (pc2 := 6) dX5_type_4 rfl (by decide) ?_
  refine r_icmp_ne (pc2 := 9) (tgt := 12) dX5_type_6 rfl (by decide) (by omega) (by omega) (fun h6 => ?_) (fun h6 => ?_)
  · refine r_aload_n (pc2 := 13) dX5_type_12 rfl rfl ?_
    refine r_getf (pc2 := 16) dX5_type_13 rfl fl_5_31 (by assumption) (by assumption) (by rfl) ?_
    refine r_aload_n (pc2 := 17) dX5_type_16 rfl rfl ?_
    refine r_getf (pc2 := 20) dX5_type_17 rfl fl_5_131 (by assumption) (by assumption) (by rfl) ?_
    refine r_iload_n (pc2 := 21) dX5_type_20 rfl rfl ?_
    refine r_iast (pc2 := 22) dX5_type_21 rfl (by assumption) (by assumption) (by omega) (by omega) (by omega) ?_
    have z33 : 33 < (wst w 41 (arO 80 (updZ tm len.toNat x))).1 := x33
    have z33w : (wst w 41 (arO 80 (updZ tm len.toNat x))).2.2 33 = mdO n hs len xsp xrv xrs xoa := (wst_ne (by decide)).trans x33w
    refine r_aload_n (pc2 := 23) dX5_type_22 rfl rfl ?_
    refine r_dup (pc2 := 24) dX5_type_23 rfl rfl ?_
    refine r_getf (pc2 := 27) dX5_type_24 rfl fl_5_131 (by assumption) (by assumption) (by rfl) ?_
    refine r_iconst (pc2 := 28) dX5_type_27 rfl ?_
    refine r_iadd (pc2 := 29) dX5_type_28 rfl ?_
    refine r_putf (pc2 := 32) dX5_type_29 rfl fl_5_131 (by assumption) (by assumption) (by exact Nat.le_of_ble_eq_true rfl) (by rfl) (by rfl) (by rfl) ?_
    have u33 : 33 < (wst (wst w 41 (arO 80 (updZ tm len.toNat x))) 33 (mdO n hs (len + 1) xsp xrv xrs xoa)).1 := x33
    have u33w : (wst (wst w 41 (arO 80 (updZ tm len.toNat x))) 33 (mdO n hs (len + 1) xsp xrv xrs xoa)).2.2 33 = mdO n hs (len + 1) xsp xrv xrs xoa := wst_self
    refine r_aload_n (pc2 := 33) dX5_type_32 rfl rfl ?_
    refine r_getf (pc2 := 36) dX5_type_33 rfl fl_5_131 (by assumption) (by assumption) (by rfl) ?_
    refine r_ret dX5_type_36 rfl ?_
    rw [if_neg (by omega)]
    have c2 : ∀ {k : Nat} {e : av_E}, k ≠ 33 → k ≠ 41 → w.2.2 k = e → (wst (wst w 41 (arO 80 (updZ tm len.toNat x))) 33 (mdO n hs (len + 1) xsp xrv xrs xoa)).2.2 k = e := fun h1 h2 h3 => (wst_ne h1).trans ((wst_ne h2).trans h3)
    exact ⟨rfl, (agO.wst _ (by omega)).trans (agO.wst _ (by omega)), g, ke, x42, ⟨xsp, xrv, xrs, xoa, wst_self⟩, ⟨c2 (by decide) (by decide) x34w, a2b⟩, c2 (by decide) (by decide) x35w, ⟨H, c2 (by decide) (by decide) a4, a5⟩, ⟨Sn, c2 (by decide) (by decide) a6, a7⟩, ⟨so, c2 (by decide) (by decide) a8⟩, ⟨be, c2 (by decide) (by decide) a9⟩, ⟨hd, c2 (by decide) (by decide) b1⟩, ⟨updZ tm len.toNat x, (wst_ne (by decide)).trans wst_self, fun j hj => by show 0 ≤ (if j = len.toNat then x else tm j) ∧ (if j = len.toNat then x else tm j) ≤ 65535; split <;> first | exact hx | exact b2 j hj, by rw [b3]; exact cOf_upd⟩⟩
  · refine r_bipush (pc2 := 11) dX5_type_9 rfl (by decide) ?_
    refine r_ret dX5_type_11 rfl ?_
    rw [if_pos (by omega)]
    exact ⟨rfl, agO.rf, g, ke, h⟩
