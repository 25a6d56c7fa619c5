/-! the reference: undo -/
def hiF (H : Nat → Int) (n : Int) : Nat → Int := fun j => H (61 * (n - 1).toNat + j)
theorem hiF_at {H : Nat → Int} {n k : Int} (hn : 1 ≤ n) (hk : 0 ≤ k) : H (61 * (n - 1) + k).toNat = hiF H n k.toNat := by
  unfold hiF
  congr 1
  omega

set_option maxHeartbeats 4000000 in
theorem m_undo (w : av_W) (v p sh ln pr gd co : Int) (c s : Nat → Int) (L : Nat → CV) (n : Int) (S : CV) (hs len : Int) (t : Nat → Int) (g ke : Nat → Int) (h : REFG w g ke (v, p, sh, ln, pr, gd, co, c, s) L n S hs len t) (hV : KV (v, p, sh, ln, pr, gd, co, c, s)) (hn : 0 ≤ n ∧ n ≤ 4) (hL : ∀ i : Nat, (i : Int) < n → (L i).1 ≤ 4 ∧ (L i).2.1 ≤ 6) : cl MX5_undo [.ref 33] w (fun r' w' => if n = 0 then RM w w' r' (-105) (v, p, sh, ln, pr, gd, co, c, s) L n S hs len t else RM w w' r' (n - 1) (L (n - 1).toNat) L (n - 1) S hs len t) := by
  obtain ⟨x42, ⟨xsp, xrv, xrs, xoa, x33w⟩, ⟨x34w, xV⟩, x35w, -⟩ := id h
  have x33 : 33 < w.1 := by omega
  have x34 : 34 < w.1 := by omega
  obtain ⟨hK, hS, hc, hpr⟩ := id hV
  have hK : KR v p sh ln := hK
  have hS : SR s := hS
  have hc : ∀ j : Nat, j < 48 → 0 ≤ c j ∧ c j ≤ 9 := hc
  have hpr : 0 ≤ pr ∧ pr ≤ 99999 := hpr
  obtain ⟨hv, hp, hsh, hln⟩ := id hK
  have xV2 : gV (v, p, sh, ln, pr, gd, co, c, s) g := xV
  obtain ⟨⟨e0, e1, e2, e3, e4, e5, e6⟩, -⟩ := id xV2
  have hGR : GR g := ⟨by omega, by omega, by omega, by omega⟩
  obtain ⟨-, -, -, -, ⟨H, a4, a5⟩, ⟨Sn, a6, a7⟩, ⟨so, a8⟩, ⟨be, a9⟩, ⟨hd, b1⟩, ⟨tm, x41w, b2, b3⟩⟩ := id h
  have x36 : 36 < w.1 := by omega
  have w34 : (wst w 33 (mdO (n - 1) hs len xsp xrv xrs xoa)).2.2 34 = arO 61 g := (wst_ne (by decide)).trans x34w
  show rn MX5_undo 0 [some (.ref 33), none] [] w (fun r' w' => if n = 0 then RM w w' r' (-105) (v, p, sh, ln, pr, gd, co, c, s) L n S hs len t else RM w w' r' (n - 1) (L (n - 1).toNat) L (n - 1) S hs len t)
  have lp : ∀ (m : Nat) (k : Int), (0 ≤ k ∧ k ≤ 61 ∧ 62 ≤ k + m) → (1 ≤ n) → rn MX5_undo 22 [some (.ref 33), some (.int (iN k))] [] (wst (wst w 33 (mdO (n - 1) hs len xsp xrv xrs xoa)) 34 (arO 61 (preF k (hiF H n) g))) (fun r' w' => if n = 0 then RM w w' r' (-105) (v, p, sh, ln, pr, gd, co, c, s) L n S hs len t else RM w w' r' (n - 1) (L (n - 1).toNat) L (n - 1) S hs len t) := by
    intro m
    induction m with
    | zero =>
      intro k hk0 hk1
      exfalso
      omega
    | succ m ih =>
      intro k hk0 hk1
      have q33 : 33 < (wst (wst w 33 (mdO (n - 1) hs len xsp xrv xrs xoa)) 34 (arO 61 (preF k (hiF H n) g))).1 := x33
      have q33w : (wst (wst w 33 (mdO (n - 1) hs len xsp xrv xrs xoa)) 34 (arO 61 (preF k (hiF H n) g))).2.2 33 = mdO (n - 1) hs len xsp xrv xrs xoa := (wst_ne (by decide)).trans wst_self
      have q34 : 34 < (wst (wst w 33 (mdO (n - 1) hs len xsp xrv xrs xoa)) 34 (arO 61 (preF k (hiF H n) g))).1 := x34
      have q34w : (wst (wst w 33 (mdO (n - 1) hs len xsp xrv xrs xoa)) 34 (arO 61 (preF k (hiF H n) g))).2.2 34 = arO 61 (preF k (hiF H n) g) := wst_self
      have q36 : 36 < (wst (wst w 33 (mdO (n - 1) hs len xsp xrv xrs xoa)) 34 (arO 61 (preF k (hiF H n) g))).1 := x36
      have q36w : (wst (wst w 33 (mdO (n - 1) hs len xsp xrv xrs xoa)) 34 (arO 61 (preF k (hiF H n) g))).2.2 36 = arO 244 H := (wst_ne (by decide)).trans ((wst_ne (by decide)).trans a4)
      refine r_iload_n (pc2 := 23) dX5_undo_22 rfl rfl ?_
      refine r_bipush (pc2 := 25) dX5_undo_23 rfl (by decide) ?_
      refine r_icmp_ge (pc2 := 28) (tgt := 54) dX5_undo_25 rfl (by decide) (by omega) (by omega) (fun h25 => ?_) (fun h25 => ?_)
      · have h6 : k = 61 := by omega
        subst h6
        refine r_aload_n (pc2 := 55) dX5_undo_54 rfl rfl ?_
        refine r_getf (pc2 := 58) dX5_undo_55 rfl fl_5_37 (by assumption) (by assumption) (by rfl) ?_
        refine r_ret dX5_undo_58 rfl ?_
        rw [if_neg (by omega)]
        have c2 : ∀ {k : Nat} {e : av_E}, k ≠ 33 → k ≠ 34 → w.2.2 k = e → (wst (wst w 33 (mdO (n - 1) hs len xsp xrv xrs xoa)) 34 (arO 61 (preF 61 (hiF H n) g))).2.2 k = e := fun h1 h2 h3 => (wst_ne h2).trans ((wst_ne h1).trans h3)
        exact ⟨rfl, (agO.wst _ (by omega)).trans (agO.wst _ (by omega)), preF 61 (hiF H n) g, ke, x42, ⟨xsp, xrv, xrs, xoa, (wst_ne (by decide)).trans wst_self⟩, ⟨wst_self, gV_congr (hL (n - 1).toNat (by omega)) (fun j hj => (preF_lt (by omega)).symm) (a5 (n - 1).toNat (by omega))⟩, c2 (by decide) (by decide) x35w, ⟨H, c2 (by decide) (by decide) a4, fun i hi => a5 i (by omega)⟩, ⟨Sn, c2 (by decide) (by decide) a6, a7⟩, ⟨so, c2 (by decide) (by decide) a8⟩, ⟨be, c2 (by decide) (by decide) a9⟩, ⟨hd, c2 (by decide) (by decide) b1⟩, ⟨tm, c2 (by decide) (by decide) x41w, b2, b3⟩⟩
      · refine r_aload_n (pc2 := 29) dX5_undo_28 rfl rfl ?_
        refine r_getf (pc2 := 32) dX5_undo_29 rfl fl_5_7 (by assumption) (by assumption) (by rfl) ?_
        refine r_iload_n (pc2 := 33) dX5_undo_32 rfl rfl ?_
        refine r_aload_n (pc2 := 34) dX5_undo_33 rfl rfl ?_
        refine r_getf (pc2 := 37) dX5_undo_34 rfl fl_5_16 (by assumption) (by assumption) (by rfl) ?_
        refine r_bipush (pc2 := 39) dX5_undo_37 rfl (by decide) ?_
        refine r_aload_n (pc2 := 40) dX5_undo_39 rfl rfl ?_
        refine r_getf (pc2 := 43) dX5_undo_40 rfl fl_5_37 (by assumption) (by assumption) (by rfl) ?_
        refine r_imul (pc2 := 44) dX5_undo_43 rfl ?_
        refine r_iload_n (pc2 := 45) dX5_undo_44 rfl rfl ?_
        refine r_iadd (pc2 := 46) dX5_undo_45 rfl ?_
        refine r_iald (pc2 := 47) dX5_undo_46 rfl (by decide) (by assumption) (by assumption) (by omega) (by omega) (by omega) ?_
        rw [hiF_at (H := H) hk1 hk0.1]
        refine r_iast (pc2 := 48) dX5_undo_47 rfl (by assumption) (by assumption) (by omega) (by omega) (by omega) ?_
        rw [wst_wst, preF_step hk0.1]
        refine r_iinc_1 (pc2 := 51) dX5_undo_48 rfl rfl ?_
        refine r_goto (tgt := 22) dX5_undo_51 (by decide) ?_
        exact ih (k + 1) (by omega) hk1
  refine r_aload_n (pc2 := 1) dX5_undo_0 rfl rfl ?_
  refine r_getf (pc2 := 4) dX5_undo_1 rfl fl_5_37 (by assumption) (by assumption) (by rfl) ?_
  refine r_if_ne (pc2 := 7) (tgt := 10) dX5_undo_4 rfl (by decide) (by omega) (fun h4 => ?_) (fun h4 => ?_)
  · refine r_aload_n (pc2 := 11) dX5_undo_10 rfl rfl ?_
    refine r_dup (pc2 := 12) dX5_undo_11 rfl rfl ?_
    refine r_getf (pc2 := 15) dX5_undo_12 rfl fl_5_37 (by assumption) (by assumption) (by rfl) ?_
    refine r_iconst (pc2 := 16) dX5_undo_15 rfl ?_
    refine r_isub (pc2 := 17) dX5_undo_16 rfl ?_
    refine r_putf (pc2 := 20) dX5_undo_17 rfl fl_5_37 (by assumption) (by assumption) (by exact Nat.le_of_ble_eq_true rfl) (by rfl) (by rfl) (by rfl) ?_
    refine r_iconst (pc2 := 21) dX5_undo_20 rfl ?_
    refine r_ist_1 (pc2 := 22) dX5_undo_21 rfl rfl ?_
    have q := lp 62 0 (by omega) (by omega)
    rw [preF_0, wst_id w34] at q
    exact q
  · refine r_bipush (pc2 := 9) dX5_undo_7 rfl (by decide) ?_
    refine r_ret dX5_undo_9 rfl ?_
    rw [if_pos (by omega)]
    exact ⟨rfl, agO.rf, g, ke, h⟩
