/-! the reference looks at its card -/
def KW (V : CV) : Prop := KV V ∧ ∀ j : Nat, (j : Int) < V.2.1 → V.2.2.2.2.2.2.2.2 j < V.1
theorem RM_of {w w' : av_W} {r' : Option Value} {y x : Int} {V : CV} {L : Nat → CV} {n : Int} {S : CV} {hs len : Int} {t g ke : Nat → Int} (e : y = x) (h1 : r' = some (.int (iN x))) (h2 : agO 33 42 w w') (h3 : REFG w' g ke V L n S hs len t) : RM w w' r' y V L n S hs len t := by
  subst e
  exact ⟨h1, h2, g, ke, h3⟩
theorem gV_GS {v p sh ln pr gd co : Int} {c s g : Nat → Int} (q : gV (v, p, sh, ln, pr, gd, co, c, s) g) (hS : SR s) : GS g := by
  obtain ⟨-, b1, b2, -, -⟩ := q
  intro j hj
  by_cases h : (j : Int) < p
  · rw [b1 j h]
    exact hS j hj
  · rw [b2 j (by omega) hj]
    decide
theorem m_layC (w : av_W) (v p sh ln pr gd co : Int) (c s : Nat → Int) (L : Nat → CV) (n : Int) (S : CV) (hs len : Int) (t : Nat → Int) (g ke : Nat → Int) (h : REFG w g ke (v, p, sh, ln, pr, gd, co, c, s) L n S hs len t) (hV : KV (v, p, sh, ln, pr, gd, co, c, s)) : cl MX5_laysSlots [.ref 33] w (fun r' w' => r' = none ∧ agO 33 42 w w' ∧ REFG w' g ke (v, p, sh, ln, pr, gd, co, c, s) L n S hs len t ∧ ∃ so, w'.2.2 38 = arO 228 so ∧ SoR so ∧ GL p sh ln s g so) := by
  obtain ⟨a0, ⟨sp, rv, rs, oa, a1⟩, ⟨a2, a2b⟩, -, -, -, ⟨so, a8⟩, -⟩ := id h
  obtain ⟨hK, hS, -, -⟩ := hV
  have hK : KR v p sh ln := hK
  obtain ⟨hv, hp, hsh, hln⟩ := id hK
  obtain ⟨⟨e0, e1, e2, e3, -⟩, b1, -⟩ := id a2b
  refine (m_laysSlots w a0 n hs len sp rv rs oa a1 g a2 ⟨by omega, by omega, by omega, by omega⟩ so a8).imp (fun r' w' q => ?_)
  obtain ⟨q1, q2⟩ := q
  rw [q1, q2, e1, e2, e3]
  exact ⟨rfl, agO.wst _ (by omega), REFG_38 h, _, wst_self, loF_SoR hp so, hp, b1, hS, fun j hj => preF_lt (by omega)⟩

set_option maxHeartbeats 4000000 in
theorem m_ghostsNowC (w : av_W) (v p sh ln pr gd co : Int) (c s : Nat → Int) (L : Nat → CV) (n : Int) (S : CV) (hs len : Int) (t : Nat → Int) (g ke : Nat → Int) (h : REFG w g ke (v, p, sh, ln, pr, gd, co, c, s) L n S hs len t) (hV : KV (v, p, sh, ln, pr, gd, co, c, s)) : cl MX5_ghostsNow [.ref 33] w (fun r' w' => r' = some (.int (iN (GA p sh ln s))) ∧ agO 33 42 w w' ∧ REFG w' g ke (v, p, sh, ln, pr, gd, co, c, s) L n S hs len t) := by
  obtain ⟨x42, ⟨xsp, xrv, xrs, xoa, x33w⟩, ⟨x34w, xV⟩, x35w, -⟩ := id h
  have x33 : 33 < w.1 := by omega
  have x34 : 34 < w.1 := by omega
  obtain ⟨hK, hS, hc, hpr⟩ := id hV
  have hK : KR v p sh ln := hK
  have hS : SR s := hS
  have hc : ∀ j : Nat, j < 48 → 0 ≤ c j ∧ c j ≤ 9 := hc
  have hpr : 0 ≤ pr ∧ pr ≤ 99999 := hpr
  obtain ⟨hv, hp, hsh, hln⟩ := id hK
  have xV2 : gV (v, p, sh, ln, pr, gd, co, c, s) g := xV
  obtain ⟨⟨e0, e1, e2, e3, e4, e5, e6⟩, -⟩ := id xV2
  have hGR : GR g := ⟨by omega, by omega, by omega, by omega⟩
  have hGS : GS g := gV_GS xV2 hS
  show rn MX5_ghostsNow 0 [some (.ref 33)] [] w _
  refine r_aload_n (pc2 := 1) dX5_ghostsNow_0 rfl rfl ?_
  refine r_callv_0 (pc2 := 4) dX5_ghostsNow_1 rfl rs_5_71 rfl (by decide) rfl (Nat.le_of_ble_eq_true rfl) (Nat.le_of_ble_eq_true rfl) (by assumption) (by assumption) (m_layC _ v p sh ln pr gd co c s L n S hs len t g ke h hV) (fun r_ w_ h_ => ?_)
  obtain ⟨e_, gr, hr, so, hso, hSo, hGL⟩ := h_
  rw [e_]
  clear e_
  obtain ⟨wr, rfl⟩ : ∃ wr, wr = w_ := ⟨_, rfl⟩
  obtain ⟨y42, ⟨ysp, yrv, yrs, yoa, y33w⟩, ⟨y34w, yV⟩, y35w, -⟩ := id hr
  have y33 : 33 < wr.1 := by omega
  have y34 : 34 < wr.1 := by omega
  refine ⟨gr.1, ?_⟩
  refine r_aload_n (pc2 := 5) dX5_ghostsNow_4 rfl rfl ?_
  refine r_callv_0 (pc2 := 8) dX5_ghostsNow_5 rfl rs_5_74 rfl (by decide) rfl (Nat.le_of_ble_eq_true rfl) (Nat.le_of_ble_eq_true rfl) (by assumption) (by assumption) (m_ghosts wr y42 _ _ _ _ _ _ _ y33w g y34w hGR hGS so hso hSo) (fun r_ w_ h_ => ?_)
  rw [h_.1, h_.2]
  clear h_ w_ r_
  refine ⟨rfl, ?_⟩
  rw [mgG_GA hGL]
  refine r_ret dX5_ghostsNow_8 rfl ?_
  exact ⟨rfl, gr, hr⟩

set_option maxHeartbeats 4000000 in
theorem m_wholeC (w : av_W) (v p sh ln pr gd co : Int) (c s : Nat → Int) (L : Nat → CV) (n : Int) (S : CV) (hs len : Int) (t : Nat → Int) (g ke : Nat → Int) (h : REFG w g ke (v, p, sh, ln, pr, gd, co, c, s) L n S hs len t) (hW : KW (v, p, sh, ln, pr, gd, co, c, s)) (fl : Int) (hfl : fl = 0 ∨ fl = 1) : cl MX5_whole [.ref 33, .int (iN fl)] w (fun r' w' => r' = some (.int (iN (if fl = 1 then wvF p v s (ssF p sh ln) (cnA p 19) else 19 - asF p s (ssF p sh ln) (cnA p 19) (-1)))) ∧ agO 33 42 w w' ∧ REFG w' g ke (v, p, sh, ln, pr, gd, co, c, s) L n S hs len t) := by
  obtain ⟨x42, ⟨xsp, xrv, xrs, xoa, x33w⟩, ⟨x34w, xV⟩, x35w, -⟩ := id h
  have x33 : 33 < w.1 := by omega
  have x34 : 34 < w.1 := by omega
  have hV : KV (v, p, sh, ln, pr, gd, co, c, s) := hW.1
  have hSV : ∀ j : Nat, (j : Int) < p → s j < v := hW.2
  obtain ⟨hK, hS, hc, hpr⟩ := id hV
  have hK : KR v p sh ln := hK
  have hS : SR s := hS
  have hc : ∀ j : Nat, j < 48 → 0 ≤ c j ∧ c j ≤ 9 := hc
  have hpr : 0 ≤ pr ∧ pr ≤ 99999 := hpr
  obtain ⟨hv, hp, hsh, hln⟩ := id hK
  have xV2 : gV (v, p, sh, ln, pr, gd, co, c, s) g := xV
  obtain ⟨⟨e0, e1, e2, e3, e4, e5, e6⟩, -⟩ := id xV2
  have hGR : GR g := ⟨by omega, by omega, by omega, by omega⟩
  have hGS : GS g := gV_GS xV2 hS
  show rn MX5_whole 0 [some (.ref 33), some (.int (iN fl)), none, none, none] [] w _
  refine r_aload_n (pc2 := 1) dX5_whole_0 rfl rfl ?_
  refine r_callv_0 (pc2 := 4) dX5_whole_1 rfl rs_5_71 rfl (by decide) rfl (Nat.le_of_ble_eq_true rfl) (Nat.le_of_ble_eq_true rfl) (by assumption) (by assumption) (m_layC _ v p sh ln pr gd co c s L n S hs len t g ke h hV) (fun r_ w_ h_ => ?_)
  obtain ⟨e_, gr, hr, so, hso, hSo, hGL⟩ := h_
  rw [e_]
  clear e_
  obtain ⟨wr, rfl⟩ : ∃ wr, wr = w_ := ⟨_, rfl⟩
  obtain ⟨y42, ⟨ysp, yrv, yrs, yoa, y33w⟩, ⟨y34w, yV⟩, y35w, -⟩ := id hr
  have y33 : 33 < wr.1 := by omega
  have y34 : 34 < wr.1 := by omega
  refine ⟨gr.1, ?_⟩
  refine r_iconst (pc2 := 5) dX5_whole_4 rfl ?_
  refine r_ist_2 (pc2 := 6) dX5_whole_5 rfl rfl ?_
  refine r_iconst (pc2 := 7) dX5_whole_6 rfl ?_
  refine r_ist_3 (pc2 := 8) dX5_whole_7 rfl rfl ?_
  have inner : ∀ (m : Nat) (k : Int) (mm : Int) (b4 : Option Value), ((0 ≤ k ∧ k ≤ v) ∧ v + 1 ≤ k + m) → (mm = sm k.toNat (fun j : Nat => if fl = 1 then bz (0 < mwA g so (j : Int)) else mwA g so (j : Int))) → rn MX5_whole 8 [some (.ref 33), some (.int (iN fl)), some (.int (iN mm)), some (.int (iN k)), b4] [] wr (fun r' w' => r' = some (.int (iN (if fl = 1 then wvF p v s (ssF p sh ln) (cnA p 19) else 19 - asF p s (ssF p sh ln) (cnA p 19) (-1)))) ∧ agO 33 42 w w' ∧ REFG w' g ke (v, p, sh, ln, pr, gd, co, c, s) L n S hs len t) := by
    intro m
    induction m with
    | zero =>
      intro k mm b4 hk0 hk1
      exfalso
      omega
    | succ m ih =>
      intro k mm b4 hk0 hk1
      refine r_iload_n (pc2 := 9) dX5_whole_8 rfl rfl ?_
      refine r_aload_n (pc2 := 10) dX5_whole_9 rfl rfl ?_
      refine r_getf (pc2 := 13) dX5_whole_10 rfl fl_5_7 (by assumption) (by assumption) (by rfl) ?_
      refine r_iconst (pc2 := 14) dX5_whole_13 rfl ?_
      refine r_ialk (k := 0) (pc2 := 15) dX5_whole_14 rfl (by decide) (by assumption) (by assumption) (by omega) (by omega) (by omega) (by decide) ?_
      rw [show g 0 = v from e0]
      refine r_icmp_ge (pc2 := 18) (tgt := 53) dX5_whole_15 rfl (by decide) (by omega) (by omega) (fun h15 => ?_) (fun h15 => ?_)
      · refine r_iload_n (pc2 := 54) dX5_whole_53 rfl rfl ?_
        refine r_ret dX5_whole_54 rfl ?_
        have h6 : k = v := by omega
        subst h6
        refine ⟨?_, gr, hr⟩
        rw [hk1]
        congr 3
        rcases hfl with hf | hf
        · subst hf
          rw [if_neg (by decide)]
          exact (sm_congr (fun j _ => if_neg (by decide))).trans (wh_sum hGL (by omega) (fun st hst => whF_lt hp (by omega) hSV st hst))
        · subst hf
          rw [if_pos rfl]
          exact (sm_congr (fun j _ => if_pos rfl)).trans (wv_eq hGL)
      · refine r_aload_n (pc2 := 19) dX5_whole_18 rfl rfl ?_
        refine r_iload_n (pc2 := 20) dX5_whole_19 rfl rfl ?_
        refine r_callv_1 (pc2 := 23) dX5_whole_20 rfl rs_5_81 rfl (by decide) rfl (Nat.le_of_ble_eq_true rfl) (Nat.le_of_ble_eq_true rfl) (by assumption) (by assumption) (m_wholeAngles wr y42 _ _ _ _ _ _ _ y33w g y34w hGR hGS so hso hSo k ⟨by omega, by omega⟩) (fun r_ w_ h_ => ?_)
        rw [h_.1, h_.2]
        clear h_ w_ r_
        refine ⟨rfl, ?_⟩
        refine r_ist_4 (pc2 := 25) dX5_whole_23 rfl rfl ?_
        refine r_iload_n (pc2 := 26) dX5_whole_25 rfl rfl ?_
        have mr := mwA_rg g so k
        refine r_iload_n (pc2 := 27) dX5_whole_26 rfl rfl ?_
        refine r_if_eq (pc2 := 30) (tgt := 43) dX5_whole_27 rfl (by decide) (by omega) (fun h27 => ?_) (fun h27 => ?_)
        · have hb : (if fl = 1 then bz (0 < mwA g so ((k.toNat : Nat) : Int)) else mwA g so ((k.toNat : Nat) : Int)) = mwA g so k := by rw [if_neg (by omega), tn hk0.1.1]
          refine r_iload (pc2 := 45) dX5_whole_43 rfl rfl ?_
          refine r_iadd (pc2 := 46) dX5_whole_45 rfl ?_
          refine r_ist_2 (pc2 := 47) dX5_whole_46 rfl rfl ?_
          refine r_iinc_3 (pc2 := 50) dX5_whole_47 rfl rfl ?_
          refine r_goto (tgt := 8) dX5_whole_50 (by decide) ?_
          exact ih (k + 1) _ _ (by omega) (by rw [sm_step hk0.1.1, ← hk1, hb])
        · refine r_iload (pc2 := 32) dX5_whole_30 rfl rfl ?_
          refine r_if_le (pc2 := 35) (tgt := 39) dX5_whole_32 rfl (by decide) (by omega) (fun h32 => ?_) (fun h32 => ?_)
          · have hb : (if fl = 1 then bz (0 < mwA g so ((k.toNat : Nat) : Int)) else mwA g so ((k.toNat : Nat) : Int)) = 0 := by rw [if_pos (by omega), tn hk0.1.1]; exact bz_f (by omega)
            refine r_iconst (pc2 := 40) dX5_whole_39 rfl ?_
            refine r_goto (tgt := 45) dX5_whole_40 (by decide) ?_
            refine r_iadd (pc2 := 46) dX5_whole_45 rfl ?_
            refine r_ist_2 (pc2 := 47) dX5_whole_46 rfl rfl ?_
            refine r_iinc_3 (pc2 := 50) dX5_whole_47 rfl rfl ?_
            refine r_goto (tgt := 8) dX5_whole_50 (by decide) ?_
            exact ih (k + 1) _ _ (by omega) (by rw [sm_step hk0.1.1, ← hk1, hb])
          · have hb : (if fl = 1 then bz (0 < mwA g so ((k.toNat : Nat) : Int)) else mwA g so ((k.toNat : Nat) : Int)) = 1 := by rw [if_pos (by omega), tn hk0.1.1]; exact bz_t (by omega)
            refine r_iconst (pc2 := 36) dX5_whole_35 rfl ?_
            refine r_goto (tgt := 45) dX5_whole_36 (by decide) ?_
            refine r_iadd (pc2 := 46) dX5_whole_45 rfl ?_
            refine r_ist_2 (pc2 := 47) dX5_whole_46 rfl rfl ?_
            refine r_iinc_3 (pc2 := 50) dX5_whole_47 rfl rfl ?_
            refine r_goto (tgt := 8) dX5_whole_50 (by decide) ?_
            exact ih (k + 1) _ _ (by omega) (by rw [sm_step hk0.1.1, ← hk1, hb])
  exact inner (v.toNat + 1) 0 0 none (by omega) rfl

theorem due_of {v p sh ln pr gd co : Int} {c s g : Nat → Int} (q : gV (v, p, sh, ln, pr, gd, co, c, s) g) (hv : 2 ≤ v ∧ v ≤ 4) (hp : 2 ≤ p ∧ p ≤ 6) (hS : SR s) (hSV : ∀ j : Nat, (j : Int) < p → s j < v) (hc : ∀ j : Nat, j < 48 → 0 ≤ c j ∧ c j ≤ 9) (a b k : Int) : (if duZ p sh a b = -105 then -105 else if k = 0 then g (7 + duZ p sh a b % p).toNat else if k = 1 then g (13 + 12 * g (7 + duZ p sh a b % p).toNat + duZ p sh a b / p).toNat else duZ p sh a b / p) = (if k = 0 then nn (sD s (slZ p sh a b)) else if k = 1 then nn (colI c (sD s (slZ p sh a b)) (rdZ p sh a b)) else nn (rdZ p sh a b)) := by
  have z := spZ_rg (sh := sh) (r := a) (pl := b) hp
  have y := rdZ_rg (sh := sh) (r := a) (pl := b) hp
  have x := slZ_rg (sh := sh) (r := a) (pl := b) hp
  unfold duZ
  by_cases h : spZ p sh a b = -1
  · have h1 : slZ p sh a b = -1 := if_pos h
    have h2 : rdZ p sh a b = -1 := if_pos h
    have h3 : colI c (-1) (-1) = -1 := if_neg (by omega)
    rw [if_pos h, if_pos rfl, h1, h2, sD_neg, h3]
    show -105 = if k = 0 then (-105 : Int) else if k = 1 then -105 else -105
    split <;> (try split) <;> rfl
  · have h1 : slZ p sh a b = spZ p sh a b % p := if_neg h
    have h2 : rdZ p sh a b = spZ p sh a b / p := if_neg h
    have m1 := Int.emod_nonneg (spZ p sh a b) (show p ≠ 0 by omega)
    have e : sD s (slZ p sh a b) = s (slZ p sh a b).toNat := if_pos (by omega)
    have e2 := hS (slZ p sh a b).toNat (by omega)
    have e3 := hSV (slZ p sh a b).toNat (by omega)
    have e4 := gV_slc q hp.2 (a := slZ p sh a b) (by omega)
    rw [e] at e4 ⊢
    rw [if_neg h, if_neg (by omega), ← h1, ← h2, e4]
    have m3 : 0 ≤ rdZ p sh a b := by
      rw [h2]
      exact Int.ediv_nonneg (by omega) (by omega)
    have e5 := gV_col q hv.2 (a := s (slZ p sh a b).toNat) (b := rdZ p sh a b) (by omega) (by omega)
    rw [e5, nn_of (by omega), nn_of (x := rdZ p sh a b) (by omega)]
    split
    · rfl
    · split
      · unfold nn
        have u : colI c (s (slZ p sh a b).toNat) (rdZ p sh a b) = c (s (slZ p sh a b).toNat * 12 + rdZ p sh a b).toNat := colI_in (by omega) (by omega)
        have u2 := hc (s (slZ p sh a b).toNat * 12 + rdZ p sh a b).toNat (by omega)
        rw [if_neg (by omega)]
      · rfl
