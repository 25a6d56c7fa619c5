/-! the reference: keep -/

set_option maxHeartbeats 4000000 in
theorem m_keep (w : av_W) (v p sh ln pr gd co : Int) (c s : Nat → Int) (L : Nat → CV) (n : Int) (S : CV) (hs len : Int) (t : Nat → Int) (g ke : Nat → Int) (h : REFG w g ke (v, p, sh, ln, pr, gd, co, c, s) L n S hs len t) (hV : KV (v, p, sh, ln, pr, gd, co, c, s)) (hn : 0 ≤ n ∧ n ≤ 4) (hL : ∀ i : Nat, (i : Int) < n → (L i).1 ≤ 4 ∧ (L i).2.1 ≤ 6) : cl MX5_keep [.ref 33] w (fun r' w' => RM w w' r' v (v, p, sh, ln, pr, gd, co, c, s) L n (v, p, sh, ln, pr, gd, co, c, s) 1 len t) := by
  obtain ⟨x42, ⟨xsp, xrv, xrs, xoa, x33w⟩, ⟨x34w, xV⟩, x35w, -⟩ := id h
  have x33 : 33 < w.1 := by omega
  have x34 : 34 < w.1 := by omega
  obtain ⟨hK, hS, hc, hpr⟩ := id hV
  have hK : KR v p sh ln := hK
  have hS : SR s := hS
  have hc : ∀ j : Nat, j < 48 → 0 ≤ c j ∧ c j ≤ 9 := hc
  have hpr : 0 ≤ pr ∧ pr ≤ 99999 := hpr
  obtain ⟨hv, hp, hsh, hln⟩ := id hK
  have xV2 : gV (v, p, sh, ln, pr, gd, co, c, s) g := xV
  obtain ⟨⟨e0, e1, e2, e3, e4, e5, e6⟩, -⟩ := id xV2
  have hGR : GR g := ⟨by omega, by omega, by omega, by omega⟩
  obtain ⟨-, -, -, -, ⟨H, a4, a5⟩, ⟨Sn, a6, a7⟩, ⟨so, a8⟩, ⟨be, a9⟩, ⟨hd, b1⟩, ⟨tm, x41w, b2, b3⟩⟩ := id h
  have x37 : 37 < w.1 := by omega
  show rn MX5_keep 0 [some (.ref 33), none] [] w (fun r' w' => RM w w' r' v (v, p, sh, ln, pr, gd, co, c, s) L n (v, p, sh, ln, pr, gd, co, c, s) 1 len t)
  have lp : ∀ (m : Nat) (k : Int), (0 ≤ k ∧ k ≤ 61 ∧ 62 ≤ k + m) → rn MX5_keep 2 [some (.ref 33), some (.int (iN k))] [] (wst w 37 (arO 61 (preF k g Sn))) (fun r' w' => RM w w' r' v (v, p, sh, ln, pr, gd, co, c, s) L n (v, p, sh, ln, pr, gd, co, c, s) 1 len t) := by
    intro m
    induction m with
    | zero =>
      intro k hk0
      exfalso
      omega
    | succ m ih =>
      intro k hk0
      have q33 : 33 < (wst w 37 (arO 61 (preF k g Sn))).1 := x33
      have q33w : (wst w 37 (arO 61 (preF k g Sn))).2.2 33 = mdO n hs len xsp xrv xrs xoa := (wst_ne (by decide)).trans x33w
      have q34 : 34 < (wst w 37 (arO 61 (preF k g Sn))).1 := x34
      have q34w : (wst w 37 (arO 61 (preF k g Sn))).2.2 34 = arO 61 g := (wst_ne (by decide)).trans x34w
      have q37 : 37 < (wst w 37 (arO 61 (preF k g Sn))).1 := x37
      have q37w : (wst w 37 (arO 61 (preF k g Sn))).2.2 37 = arO 61 (preF k g Sn) := wst_self
      refine r_iload_n (pc2 := 3) dX5_keep_2 rfl rfl ?_
      refine r_bipush (pc2 := 5) dX5_keep_3 rfl (by decide) ?_
      refine r_icmp_ge (pc2 := 8) (tgt := 26) dX5_keep_5 rfl (by decide) (by omega) (by omega) (fun h5 => ?_) (fun h5 => ?_)
      · have h6 : k = 61 := by omega
        subst h6
        refine r_aload_n (pc2 := 27) dX5_keep_26 rfl rfl ?_
        refine r_iconst (pc2 := 28) dX5_keep_27 rfl ?_
        refine r_putf (pc2 := 31) dX5_keep_28 rfl fl_5_158 (by assumption) (by assumption) (by exact Nat.le_of_ble_eq_true rfl) (by rfl) (by rfl) (by rfl) ?_
        have u33 : 33 < (wst (wst w 37 (arO 61 (preF 61 g Sn))) 33 (mdO n 1 len xsp xrv xrs xoa)).1 := x33
        have u33w : (wst (wst w 37 (arO 61 (preF 61 g Sn))) 33 (mdO n 1 len xsp xrv xrs xoa)).2.2 33 = mdO n 1 len xsp xrv xrs xoa := wst_self
        have u34 : 34 < (wst (wst w 37 (arO 61 (preF 61 g Sn))) 33 (mdO n 1 len xsp xrv xrs xoa)).1 := x34
        have u34w : (wst (wst w 37 (arO 61 (preF 61 g Sn))) 33 (mdO n 1 len xsp xrv xrs xoa)).2.2 34 = arO 61 g := (wst_ne (by decide)).trans ((wst_ne (by decide)).trans x34w)
        show rn _ _ _ _ (wst (wst w 37 (arO 61 (preF 61 g Sn))) 33 (mdO n 1 len xsp xrv xrs xoa)) _
        refine r_aload_n (pc2 := 32) dX5_keep_31 rfl rfl ?_
        refine r_getf (pc2 := 35) dX5_keep_32 rfl fl_5_7 (by assumption) (by assumption) (by rfl) ?_
        refine r_iconst (pc2 := 36) dX5_keep_35 rfl ?_
        refine r_ialk (k := 0) (pc2 := 37) dX5_keep_36 rfl (by decide) (by assumption) (by assumption) (by omega) (by omega) (by omega) (by decide) ?_
        refine r_ret dX5_keep_37 rfl ?_
        rw [e0]
        have c2 : ∀ {k : Nat} {e : av_E}, k ≠ 33 → k ≠ 37 → w.2.2 k = e → (wst (wst w 37 (arO 61 (preF 61 g Sn))) 33 (mdO n 1 len xsp xrv xrs xoa)).2.2 k = e := fun h1 h2 h3 => (wst_ne h1).trans ((wst_ne h2).trans h3)
        exact ⟨rfl, (agO.wst _ (by omega)).trans (agO.wst _ (by omega)), g, ke, x42, ⟨xsp, xrv, xrs, xoa, wst_self⟩, ⟨c2 (by decide) (by decide) x34w, xV2⟩, c2 (by decide) (by decide) x35w, ⟨H, c2 (by decide) (by decide) a4, a5⟩, ⟨preF 61 g Sn, (wst_ne (by decide)).trans wst_self, fun _ => gV_congr ⟨hv.2, hp.2⟩ (fun j hj => (preF_lt (by omega)).symm) xV2⟩, ⟨so, c2 (by decide) (by decide) a8⟩, ⟨be, c2 (by decide) (by decide) a9⟩, ⟨hd, c2 (by decide) (by decide) b1⟩, ⟨tm, c2 (by decide) (by decide) x41w, b2, b3⟩⟩
      · refine r_aload_n (pc2 := 9) dX5_keep_8 rfl rfl ?_
        refine r_getf (pc2 := 12) dX5_keep_9 rfl fl_5_19 (by assumption) (by assumption) (by rfl) ?_
        refine r_iload_n (pc2 := 13) dX5_keep_12 rfl rfl ?_
        refine r_aload_n (pc2 := 14) dX5_keep_13 rfl rfl ?_
        refine r_getf (pc2 := 17) dX5_keep_14 rfl fl_5_7 (by assumption) (by assumption) (by rfl) ?_
        refine r_iload_n (pc2 := 18) dX5_keep_17 rfl rfl ?_
        refine r_iald (pc2 := 19) dX5_keep_18 rfl (by decide) (by assumption) (by assumption) (by omega) (by omega) (by omega) ?_
        refine r_iast (pc2 := 20) dX5_keep_19 rfl (by assumption) (by assumption) (by omega) (by omega) (by omega) ?_
        rw [wst_wst, preF_step hk0.1]
        refine r_iinc_1 (pc2 := 23) dX5_keep_20 rfl rfl ?_
        refine r_goto (tgt := 2) dX5_keep_23 (by decide) ?_
        exact ih (k + 1) (by omega)
  refine r_iconst (pc2 := 1) dX5_keep_0 rfl ?_
  refine r_ist_1 (pc2 := 2) dX5_keep_1 rfl rfl ?_
  have := lp 62 0 (by omega)
  rw [preF_0, wst_id a6] at this
  exact this
