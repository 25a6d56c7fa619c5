/-! the reference: restore -/
theorem gV_0 {V : CV} {g : Nat → Int} (h : gV V g) : g 0 = V.1 := by
  obtain ⟨v, p, sh, ln, pr, gd, co, c, s⟩ := V
  exact h.1.1

set_option maxHeartbeats 4000000 in
theorem m_restore (w : av_W) (v p sh ln pr gd co : Int) (c s : Nat → Int) (L : Nat → CV) (n : Int) (S : CV) (hs len : Int) (t : Nat → Int) (g ke : Nat → Int) (h : REFG w g ke (v, p, sh, ln, pr, gd, co, c, s) L n S hs len t) (hV : KV (v, p, sh, ln, pr, gd, co, c, s)) (hn : 0 ≤ n ∧ n ≤ 4) (hL : ∀ i : Nat, (i : Int) < n → (L i).1 ≤ 4 ∧ (L i).2.1 ≤ 6) (hhs : hs = 0 ∨ hs = 1) (hSk : hs = 1 → S.1 ≤ 4 ∧ S.2.1 ≤ 6) : cl MX5_restore [.ref 33] w (fun r' w' => if hs = 0 then RM w w' r' (-105) (v, p, sh, ln, pr, gd, co, c, s) L n S hs len t else RM w w' r' S.1 S (recL L n (v, p, sh, ln, pr, gd, co, c, s)) (recN n) S hs len t) := by
  obtain ⟨x42, ⟨xsp, xrv, xrs, xoa, x33w⟩, ⟨x34w, xV⟩, x35w, -⟩ := id h
  have x33 : 33 < w.1 := by omega
  have x34 : 34 < w.1 := by omega
  obtain ⟨hK, hS, hc, hpr⟩ := id hV
  have hK : KR v p sh ln := hK
  have hS : SR s := hS
  have hc : ∀ j : Nat, j < 48 → 0 ≤ c j ∧ c j ≤ 9 := hc
  have hpr : 0 ≤ pr ∧ pr ≤ 99999 := hpr
  obtain ⟨hv, hp, hsh, hln⟩ := id hK
  have xV2 : gV (v, p, sh, ln, pr, gd, co, c, s) g := xV
  obtain ⟨⟨e0, e1, e2, e3, e4, e5, e6⟩, -⟩ := id xV2
  have hGR : GR g := ⟨by omega, by omega, by omega, by omega⟩
  show rn MX5_restore 0 [some (.ref 33), none] [] w (fun r' w' => if hs = 0 then RM w w' r' (-105) (v, p, sh, ln, pr, gd, co, c, s) L n S hs len t else RM w w' r' S.1 S (recL L n (v, p, sh, ln, pr, gd, co, c, s)) (recN n) S hs len t)
  have lp : ∀ (m : Nat) (k : Int) (wr : av_W) (ke2 Sn : Nat → Int), (0 ≤ k ∧ k ≤ 61 ∧ 62 ≤ k + m) → (agO 33 42 w wr) → (REFG wr g ke2 (v, p, sh, ln, pr, gd, co, c, s) L n S hs len t) → (gV (v, p, sh, ln, pr, gd, co, c, s) ke2) → (wr.2.2 37 = arO 61 Sn) → (gV S Sn) → (hs = 1) → rn MX5_restore 16 [some (.ref 33), some (.int (iN k))] [] (wst wr 34 (arO 61 (preF k Sn g))) (fun r' w' => if hs = 0 then RM w w' r' (-105) (v, p, sh, ln, pr, gd, co, c, s) L n S hs len t else RM w w' r' S.1 S (recL L n (v, p, sh, ln, pr, gd, co, c, s)) (recN n) S hs len t) := by
    intro m
    induction m with
    | zero =>
      intro k wr ke2 Sn hk0 hk1 hk2 hk3 hk4 hk5 hk6
      exfalso
      omega
    | succ m ih =>
      intro k wr ke2 Sn hk0 hk1 hk2 hk3 hk4 hk5 hk6
      obtain ⟨y42, ⟨ysp, yrv, yrs, yoa, y33w⟩, ⟨y34w, yV⟩, y35w, -⟩ := id hk2
      have y33 : 33 < wr.1 := by omega
      have y34 : 34 < wr.1 := by omega
      have q33 : 33 < (wst wr 34 (arO 61 (preF k Sn g))).1 := y33
      have q33w : (wst wr 34 (arO 61 (preF k Sn g))).2.2 33 = mdO n hs len ysp yrv yrs yoa := (wst_ne (by decide)).trans y33w
      have q34 : 34 < (wst wr 34 (arO 61 (preF k Sn g))).1 := y34
      have q34w : (wst wr 34 (arO 61 (preF k Sn g))).2.2 34 = arO 61 (preF k Sn g) := wst_self
      have q37 : 37 < (wst wr 34 (arO 61 (preF k Sn g))).1 := (by omega : 37 < wr.1)
      have q37w : (wst wr 34 (arO 61 (preF k Sn g))).2.2 37 = arO 61 Sn := (wst_ne (by decide)).trans hk4
      refine r_iload_n (pc2 := 17) dX5_restore_16 rfl rfl ?_
      refine r_bipush (pc2 := 19) dX5_restore_17 rfl (by decide) ?_
      refine r_icmp_ge (pc2 := 22) (tgt := 40) dX5_restore_19 rfl (by decide) (by omega) (by omega) (fun h19 => ?_) (fun h19 => ?_)
      · have h6 : k = 61 := by omega
        subst h6
        refine r_aload_n (pc2 := 41) dX5_restore_40 rfl rfl ?_
        refine r_aload_n (pc2 := 42) dX5_restore_41 rfl rfl ?_
        refine r_getf (pc2 := 45) dX5_restore_42 rfl fl_5_7 (by assumption) (by assumption) (by rfl) ?_
        refine r_iconst (pc2 := 46) dX5_restore_45 rfl ?_
        refine r_ialk (k := 0) (pc2 := 47) dX5_restore_46 rfl (by decide) (by assumption) (by assumption) (by omega) (by omega) (by omega) (by decide) ?_
        rw [show preF 61 Sn g 0 = S.1 from (preF_lt (by omega)).trans (gV_0 hk5)]
        refine r_callv_1 (pc2 := 50) dX5_restore_47 rfl rs_5_97 rfl (by decide) rfl (Nat.le_of_ble_eq_true rfl) (Nat.le_of_ble_eq_true rfl) (by assumption) (by assumption) (m_actC _ _ ke2 S (v, p, sh, ln, pr, gd, co, c, s) L n S hs len t (REFG_34 hk2 (gV_congr (hSk hk6) (fun j hj => (preF_lt (by omega)).symm) hk5)) ⟨hv.2, hp.2⟩ hk3 hL hn S.1) (fun r_ w_ h_ => ?_)
        rw [h_.1]
        refine ⟨h_.2.1.1, ?_⟩
        refine r_ret dX5_restore_50 rfl ?_
        rw [if_neg (by omega)]
        exact ⟨rfl, (hk1.trans (agO.wst _ (by omega))).trans h_.2.1, h_.2.2⟩
      · refine r_aload_n (pc2 := 23) dX5_restore_22 rfl rfl ?_
        refine r_getf (pc2 := 26) dX5_restore_23 rfl fl_5_7 (by assumption) (by assumption) (by rfl) ?_
        refine r_iload_n (pc2 := 27) dX5_restore_26 rfl rfl ?_
        refine r_aload_n (pc2 := 28) dX5_restore_27 rfl rfl ?_
        refine r_getf (pc2 := 31) dX5_restore_28 rfl fl_5_19 (by assumption) (by assumption) (by rfl) ?_
        refine r_iload_n (pc2 := 32) dX5_restore_31 rfl rfl ?_
        refine r_iald (pc2 := 33) dX5_restore_32 rfl (by decide) (by assumption) (by assumption) (by omega) (by omega) (by omega) ?_
        refine r_iast (pc2 := 34) dX5_restore_33 rfl (by assumption) (by assumption) (by omega) (by omega) (by omega) ?_
        rw [wst_wst, preF_step hk0.1]
        refine r_iinc_1 (pc2 := 37) dX5_restore_34 rfl rfl ?_
        refine r_goto (tgt := 16) dX5_restore_37 (by decide) ?_
        exact ih (k + 1) wr ke2 Sn (by omega) hk1 hk2 hk3 hk4 hk5 hk6
  refine r_aload_n (pc2 := 1) dX5_restore_0 rfl rfl ?_
  refine r_getf (pc2 := 4) dX5_restore_1 rfl fl_5_158 (by assumption) (by assumption) (by rfl) ?_
  refine r_if_ne (pc2 := 7) (tgt := 10) dX5_restore_4 rfl (by decide) (by omega) (fun h4 => ?_) (fun h4 => ?_)
  · refine r_aload_n (pc2 := 11) dX5_restore_10 rfl rfl ?_
    refine r_callv_0 (pc2 := 14) dX5_restore_11 rfl rs_5_94 rfl (by decide) rfl (Nat.le_of_ble_eq_true rfl) (Nat.le_of_ble_eq_true rfl) (by assumption) (by assumption) (m_remC _ _ _ (v, p, sh, ln, pr, gd, co, c, s) _ _ _ _ _ _ h ⟨hv.2, hp.2⟩) (fun r_ w_ h_ => ?_)
    obtain ⟨e_, gr, ke2, hr, hke⟩ := h_
    rw [e_]
    clear e_
    obtain ⟨wr, rfl⟩ : ∃ wr, wr = w_ := ⟨_, rfl⟩
    obtain ⟨y42, ⟨ysp, yrv, yrs, yoa, y33w⟩, ⟨y34w, yV⟩, y35w, -⟩ := id hr
    have y33 : 33 < wr.1 := by omega
    have y34 : 34 < wr.1 := by omega
    refine ⟨gr.1, ?_⟩
    refine r_iconst (pc2 := 15) dX5_restore_14 rfl ?_
    refine r_ist_1 (pc2 := 16) dX5_restore_15 rfl rfl ?_
    have hs1 : hs = 1 := by omega
    obtain ⟨-, -, -, -, -, ⟨Sn, a6, a7⟩, -⟩ := id hr
    have q := lp 62 0 wr ke2 Sn (by omega) gr hr hke a6 (a7 hs1) hs1
    rw [preF_0, wst_id y34w] at q
    exact q
  · refine r_bipush (pc2 := 9) dX5_restore_7 rfl (by decide) ?_
    refine r_ret dX5_restore_9 rfl ?_
    rw [if_pos (by omega)]
    exact ⟨rfl, agO.rf, g, ke, h⟩
