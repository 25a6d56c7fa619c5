/-! the reference: addView -/

set_option maxHeartbeats 4000000 in
theorem m_addView (w : av_W) (v p sh ln pr gd co : Int) (c s : Nat → Int) (L : Nat → CV) (n : Int) (S : CV) (hs len : Int) (t : Nat → Int) (g ke : Nat → Int) (h : REFG w g ke (v, p, sh, ln, pr, gd, co, c, s) L n S hs len t) (hV : KV (v, p, sh, ln, pr, gd, co, c, s)) (hn : 0 ≤ n ∧ n ≤ 4) (hL : ∀ i : Nat, (i : Int) < n → (L i).1 ≤ 4 ∧ (L i).2.1 ≤ 6) : cl MX5_addView [.ref 33] w (fun r' w' => MA w w' r' (o_addView (v, p, sh, ln, pr, gd, co, c, s)) (v, p, sh, ln, pr, gd, co, c, s) L n S hs len t) := by
  obtain ⟨x42, ⟨xsp, xrv, xrs, xoa, x33w⟩, ⟨x34w, xV⟩, x35w, -⟩ := id h
  have x33 : 33 < w.1 := by omega
  have x34 : 34 < w.1 := by omega
  obtain ⟨hK, hS, hc, hpr⟩ := id hV
  have hK : KR v p sh ln := hK
  have hS : SR s := hS
  have hc : ∀ j : Nat, j < 48 → 0 ≤ c j ∧ c j ≤ 9 := hc
  have hpr : 0 ≤ pr ∧ pr ≤ 99999 := hpr
  obtain ⟨hv, hp, hsh, hln⟩ := id hK
  have xV2 : gV (v, p, sh, ln, pr, gd, co, c, s) g := xV
  obtain ⟨⟨e0, e1, e2, e3, e4, e5, e6⟩, -⟩ := id xV2
  have hGR : GR g := ⟨by omega, by omega, by omega, by omega⟩
  show rn MX5_addView 0 [some (.ref 33)] [] w _
  refine r_aload_n (pc2 := 1) dX5_addView_0 rfl rfl ?_
  refine r_getf (pc2 := 4) dX5_addView_1 rfl fl_5_7 (by assumption) (by assumption) (by rfl) ?_
  refine r_iconst (pc2 := 5) dX5_addView_4 rfl ?_
  refine r_ialk (k := 0) (pc2 := 6) dX5_addView_5 rfl (by decide) (by assumption) (by assumption) (by omega) (by omega) (by omega) (by decide) ?_
  refine r_iconst (pc2 := 7) dX5_addView_6 rfl ?_
  refine r_icmp_ne (pc2 := 10) (tgt := 13) dX5_addView_7 rfl (by decide) (by omega) (by omega) (fun h7 => ?_) (fun h7 => ?_)
  · refine r_aload_n (pc2 := 14) dX5_addView_13 rfl rfl ?_
    refine r_callv_0 (pc2 := 17) dX5_addView_14 rfl rs_5_94 rfl (by decide) rfl (Nat.le_of_ble_eq_true rfl) (Nat.le_of_ble_eq_true rfl) (by assumption) (by assumption) (m_remC _ _ _ (v, p, sh, ln, pr, gd, co, c, s) _ _ _ _ _ _ h ⟨hv.2, hp.2⟩) (fun r_ w_ h_ => ?_)
    obtain ⟨e_, gr, ke2, hr, hke⟩ := h_
    rw [e_]
    clear e_
    obtain ⟨wr, rfl⟩ : ∃ wr, wr = w_ := ⟨_, rfl⟩
    obtain ⟨y42, ⟨ysp, yrv, yrs, yoa, y33w⟩, ⟨y34w, yV⟩, y35w, -⟩ := id hr
    have y33 : 33 < wr.1 := by omega
    have y34 : 34 < wr.1 := by omega
    refine ⟨gr.1, ?_⟩
    refine r_aload_n (pc2 := 18) dX5_addView_17 rfl rfl ?_
    refine r_getf (pc2 := 21) dX5_addView_18 rfl fl_5_7 (by assumption) (by assumption) (by rfl) ?_
    refine r_iconst (pc2 := 22) dX5_addView_21 rfl ?_
    refine r_dup2 (pc2 := 23) dX5_addView_22 rfl rfl rfl ?_
    refine r_iald (pc2 := 24) dX5_addView_23 rfl (by decide) (by assumption) (by assumption) (by omega) (by omega) (by omega) ?_
    rw [show g (0 : Int).toNat = v from e0]
    refine r_iconst (pc2 := 25) dX5_addView_24 rfl ?_
    refine r_iadd (pc2 := 26) dX5_addView_25 rfl ?_
    refine r_iast (pc2 := 27) dX5_addView_26 rfl (by assumption) (by assumption) (by omega) (by omega) (by omega) ?_
    have hv3 : v ≤ 3 := by omega
    have z33 : 33 < (wst wr 34 (arO 61 (updZ g (0 : Int).toNat (v + 1)))).1 := y33
    have z33w := (wst_ne (w := wr) (a := 34) (b := 33) (e := arO 61 (updZ g (0 : Int).toNat (v + 1))) (by decide)).trans y33w
    have en0 : (updZ g (0 : Int).toNat (v + 1)) 0 = v + 1 := rfl
    have en1 : (updZ g (0 : Int).toNat (v + 1)) 1 = p := (if_neg (by decide)).trans e1
    have en2 : (updZ g (0 : Int).toNat (v + 1)) 2 = sh := (if_neg (by decide)).trans e2
    have en3 : (updZ g (0 : Int).toNat (v + 1)) 3 = ln := (if_neg (by decide)).trans e3
    have hb3 : ∀ j : Nat, (j : Int) < 12 * (v + 1) → (updZ g (0 : Int).toNat (v + 1)) (13 + j) = rgF (v * 12) 12 (fun _ => 0) c j := fun j hj => by
      refine (if_neg (by omega)).trans ?_
      by_cases hj2 : (j : Int) < 12 * v
      · rw [rgF_out (by omega)]
        exact xV2.2.2.2.1 j hj2
      · rw [rgF_in (by omega)]
        exact xV2.2.2.2.2 j (by omega) (by omega)
    have hb4 : ∀ j : Nat, 12 * (v + 1) ≤ (j : Int) → j < 48 → (updZ g (0 : Int).toNat (v + 1)) (13 + j) = 0 := fun j hj hj2 => (if_neg (by omega)).trans (xV2.2.2.2.2 j (by omega) hj2)
    refine r_aload_n (pc2 := 28) dX5_addView_27 rfl rfl ?_
    refine r_callv_0 (pc2 := 31) dX5_addView_28 rfl rs_5_34 rfl (by decide) rfl (Nat.le_of_ble_eq_true rfl) (Nat.le_of_ble_eq_true rfl) (by assumption) (by assumption) (m_ordersAsFirst (wst wr 34 (arO 61 (updZ g (0 : Int).toNat (v + 1)))) y42 _ _ _ _ _ _ _ z33w (updZ g (0 : Int).toNat (v + 1)) wst_self ⟨by omega, by omega, by omega, by omega⟩) (fun r_ w_ h_ => ?_)
    rw [h_.1, h_.2, en0, en1, wst_wst]
    clear h_ w_ r_
    have u33 : 33 < (wst wr 34 (arO 61 (rgF 7 6 (oaF (v + 1) p) (updZ g (0 : Int).toNat (v + 1))))).1 := y33
    have u33w := (wst_ne (w := wr) (a := 34) (b := 33) (e := arO 61 (rgF 7 6 (oaF (v + 1) p) (updZ g (0 : Int).toNat (v + 1)))) (by decide)).trans y33w
    have u34 : 34 < (wst wr 34 (arO 61 (rgF 7 6 (oaF (v + 1) p) (updZ g (0 : Int).toNat (v + 1))))).1 := y34
    have u34w : (wst wr 34 (arO 61 (rgF 7 6 (oaF (v + 1) p) (updZ g (0 : Int).toNat (v + 1))))).2.2 34 = arO 61 (rgF 7 6 (oaF (v + 1) p) (updZ g (0 : Int).toNat (v + 1))) := wst_self
    refine ⟨rfl, ?_⟩
    refine r_aload_n (pc2 := 32) dX5_addView_31 rfl rfl ?_
    refine r_aload_n (pc2 := 33) dX5_addView_32 rfl rfl ?_
    refine r_getf (pc2 := 36) dX5_addView_33 rfl fl_5_7 (by assumption) (by assumption) (by rfl) ?_
    refine r_iconst (pc2 := 37) dX5_addView_36 rfl ?_
    refine r_ialk (k := 0) (pc2 := 38) dX5_addView_37 rfl (by decide) (by assumption) (by assumption) (by omega) (by omega) (by omega) (by decide) ?_
    rw [show (rgF 7 6 (oaF (v + 1) p) (updZ g (0 : Int).toNat (v + 1))) 0 = v + 1 from (rgF_out (by omega)).trans en0]
    refine r_callv_1 (pc2 := 41) dX5_addView_38 rfl rs_5_97 rfl (by decide) rfl (Nat.le_of_ble_eq_true rfl) (Nat.le_of_ble_eq_true rfl) (by assumption) (by assumption) (m_actC _ _ ke2 (v + 1, p, sh, ln, pr, gd, co, rgF (v * 12) 12 (fun _ => 0) c, preF 6 (inT (v + 1)) s) (v, p, sh, ln, pr, gd, co, c, s) L n S hs len t (REFG_34 hr (gV_first (g := (updZ g (0 : Int).toNat (v + 1))) hp.2 ⟨en0, en1, (if_neg (by decide)).trans e2, (if_neg (by decide)).trans e3, (if_neg (by decide)).trans e4, (if_neg (by decide)).trans e5, (if_neg (by decide)).trans e6⟩ hb3 hb4)) ⟨hv.2, hp.2⟩ hke hL hn (v + 1)) (fun r_ w_ h_ => ?_)
    rw [h_.1]
    refine ⟨h_.2.1.1, ?_⟩
    refine r_ret dX5_addView_41 rfl ?_
    refine MA_s (x := v + 1) (V2 := (v + 1, p, sh, ln, pr, gd, co, rgF (v * 12) 12 (fun _ => 0) c, preF 6 (inT (v + 1)) s)) ?_ ⟨rfl, agO.trans ?_ h_.2.1, h_.2.2⟩
    · show (if 4 ≤ v then (-103, none) else (v + 1, some (v + 1, p, sh, ln, pr, gd, co, rgF (v * 12) 12 (fun _ => 0) c, preF 6 (inT (v + 1)) s))) = _
      rw [if_neg (by omega)]
    · exact gr.trans (agO.wst _ (by omega))
  · refine r_bipush (pc2 := 12) dX5_addView_10 rfl (by decide) ?_
    refine r_ret dX5_addView_12 rfl ?_
    refine MA_n (x := -103) ?_ rfl agO.rf ⟨g, ke, h⟩
    show (if 4 ≤ v then (-103, none) else (v + 1, some (v + 1, p, sh, ln, pr, gd, co, rgF (v * 12) 12 (fun _ => 0) c, preF 6 (inT (v + 1)) s))) = _
    rw [if_pos (by omega)]
