/-! the reference's acts: settings -/
theorem MA_ex {w w' : av_W} {r' : Option Value} {o : Int × Option CV} {V : CV} {L : Nat → CV} {n : Int} {S : CV} {hs len : Int} {t : Nat → Int} (h : MA w w' r' o V L n S hs len t) : (∃ x, r' = some (.int (iN x))) ∧ agO 33 42 w w' := by
  obtain ⟨x, V2⟩ := o
  cases V2 with
  | none => exact ⟨⟨x, h.1⟩, h.2.1⟩
  | some V2 => exact ⟨⟨x, h.1⟩, h.2.1⟩
theorem bz_nz {c : Prop} [Decidable c] (h : bz c ≠ 0) : c := by
  by_cases q : c
  · exact q
  · exact absurd (bz_f q) h
theorem bz_z {c : Prop} [Decidable c] (h : bz c = 0) : ¬ c := by
  intro q
  have := bz_t q
  omega
theorem gV_num {v p sh ln pr gd co : Int} {c s g g2 : Nat → Int} {v2 p2 sh2 ln2 pr2 gd2 co2 : Int} (q : gV (v, p, sh, ln, pr, gd, co, c, s) g) (hv : v2 = v) (hp : p2 = p) (h : ∀ j : Nat, 7 ≤ j → g2 j = g j) (e : g2 0 = v2 ∧ g2 1 = p2 ∧ g2 2 = sh2 ∧ g2 3 = ln2 ∧ g2 4 = pr2 ∧ g2 5 = gd2 ∧ g2 6 = co2) : gV (v2, p2, sh2, ln2, pr2, gd2, co2, c, s) g2 := by
  subst hv hp
  obtain ⟨a, b1, b2, b3, b4⟩ := q
  exact ⟨e, fun j hj => (h _ (by omega)).trans (b1 j hj), fun j hj hj2 => (h _ (by omega)).trans (b2 j hj hj2), fun j hj => (h _ (by omega)).trans (b3 j hj), fun j hj hj2 => (h _ (by omega)).trans (b4 j hj hj2)⟩

set_option maxHeartbeats 4000000 in
theorem m_settles_2 (w : av_W) (v p sh ln pr gd co : Int) (c s : Nat → Int) (L : Nat → CV) (n : Int) (S : CV) (hs len : Int) (t : Nat → Int) (g ke : Nat → Int) (h : REFG w g ke (v, p, sh, ln, pr, gd, co, c, s) L n S hs len t) (hV : KV (v, p, sh, ln, pr, gd, co, c, s)) (hn : 0 ≤ n ∧ n ≤ 4) (hL : ∀ i : Nat, (i : Int) < n → (L i).1 ≤ 4 ∧ (L i).2.1 ≤ 6) (a : Int) (ha : RG a) : cl MX5_settles [.ref 33, .int (iN 2), .int (iN a), .int (iN (bz (-3 ≤ a ∧ a ≤ 3)))] w (fun r' w' => MA w w' r' (o_setShift (v, p, sh, ln, pr, gd, co, c, s) a) (v, p, sh, ln, pr, gd, co, c, s) L n S hs len t) := by
  obtain ⟨x42, ⟨xsp, xrv, xrs, xoa, x33w⟩, ⟨x34w, xV⟩, x35w, -⟩ := id h
  have x33 : 33 < w.1 := by omega
  have x34 : 34 < w.1 := by omega
  obtain ⟨hK, hS, hc, hpr⟩ := id hV
  have hK : KR v p sh ln := hK
  have hS : SR s := hS
  have hc : ∀ j : Nat, j < 48 → 0 ≤ c j ∧ c j ≤ 9 := hc
  have hpr : 0 ≤ pr ∧ pr ≤ 99999 := hpr
  obtain ⟨hv, hp, hsh, hln⟩ := id hK
  have xV2 : gV (v, p, sh, ln, pr, gd, co, c, s) g := xV
  obtain ⟨⟨e0, e1, e2, e3, e4, e5, e6⟩, -⟩ := id xV2
  have hGR : GR g := ⟨by omega, by omega, by omega, by omega⟩
  have haR : -2147483648 ≤ a ∧ a < 2147483648 := ha
  have hb0 := bz_01 (c := -3 ≤ a ∧ a ≤ 3)
  show rn MX5_settles 0 [some (.ref 33), some (.int (iN 2)), some (.int (iN a)), some (.int (iN (bz (-3 ≤ a ∧ a ≤ 3)))), none] [] w _
  refine r_iload_n (pc2 := 1) dX5_settles_0 rfl rfl ?_
  refine r_if_ne (pc2 := 4) (tgt := 7) dX5_settles_1 rfl (by decide) (by omega) (fun h1 => ?_) (fun h1 => ?_)
  · have hC : -3 ≤ a ∧ a ≤ 3 := bz_nz (by omega)
    refine r_aload_n (pc2 := 8) dX5_settles_7 rfl rfl ?_
    refine r_getf (pc2 := 11) dX5_settles_8 rfl fl_5_7 (by assumption) (by assumption) (by rfl) ?_
    refine r_iload_n (pc2 := 12) dX5_settles_11 rfl rfl ?_
    refine r_iald (pc2 := 13) dX5_settles_12 rfl (by decide) (by assumption) (by assumption) (by omega) (by omega) (by omega) ?_
    rw [show g (2 : Int).toNat = sh from e2]
    refine r_ist_4 (pc2 := 15) dX5_settles_13 rfl rfl ?_
    refine r_iload (pc2 := 17) dX5_settles_15 rfl rfl ?_
    refine r_iload_n (pc2 := 18) dX5_settles_17 rfl rfl ?_
    refine r_icmp_ne (pc2 := 21) (tgt := 24) dX5_settles_18 rfl (by decide) (by omega) (by omega) (fun h18 => ?_) (fun h18 => ?_)
    · refine r_aload_n (pc2 := 25) dX5_settles_24 rfl rfl ?_
      refine r_callv_0 (pc2 := 28) dX5_settles_25 rfl rs_5_94 rfl (by decide) rfl (Nat.le_of_ble_eq_true rfl) (Nat.le_of_ble_eq_true rfl) (by assumption) (by assumption) (m_remC _ _ _ (v, p, sh, ln, pr, gd, co, c, s) _ _ _ _ _ _ h ⟨hv.2, hp.2⟩) (fun r_ w_ h_ => ?_)
      obtain ⟨e_, gr, ke2, hr, hke⟩ := h_
      rw [e_]
      clear e_
      obtain ⟨wr, rfl⟩ : ∃ wr, wr = w_ := ⟨_, rfl⟩
      obtain ⟨y42, ⟨ysp, yrv, yrs, yoa, y33w⟩, ⟨y34w, yV⟩, y35w, -⟩ := id hr
      have y33 : 33 < wr.1 := by omega
      have y34 : 34 < wr.1 := by omega
      refine ⟨gr.1, ?_⟩
      refine r_aload_n (pc2 := 29) dX5_settles_28 rfl rfl ?_
      refine r_getf (pc2 := 32) dX5_settles_29 rfl fl_5_7 (by assumption) (by assumption) (by rfl) ?_
      refine r_iload_n (pc2 := 33) dX5_settles_32 rfl rfl ?_
      refine r_iload_n (pc2 := 34) dX5_settles_33 rfl rfl ?_
      refine r_iast (pc2 := 35) dX5_settles_34 rfl (by assumption) (by assumption) (by omega) (by omega) (by omega) ?_
      have z33 : 33 < (wst wr 34 (arO 61 (updZ g (2 : Int).toNat a))).1 := y33
      have z33w := (wst_ne (w := wr) (a := 34) (b := 33) (e := arO 61 (updZ g (2 : Int).toNat a)) (by decide)).trans y33w
      refine r_iload_n (pc2 := 36) dX5_settles_35 rfl rfl ?_
      refine r_iconst (pc2 := 37) dX5_settles_36 rfl ?_
      refine r_icmp_ne (pc2 := 40) (tgt := 44) dX5_settles_37 rfl (by decide) (by omega) (by omega) (fun h37 => ?_) (fun h37 => ?_)
      · refine r_aload_n (pc2 := 45) dX5_settles_44 rfl rfl ?_
        refine r_iload (pc2 := 47) dX5_settles_45 rfl rfl ?_
        refine r_callv_1 (pc2 := 50) dX5_settles_47 rfl rs_5_97 rfl (by decide) rfl (Nat.le_of_ble_eq_true rfl) (Nat.le_of_ble_eq_true rfl) (by assumption) (by assumption) (m_actC _ _ ke2 (v, p, a, ln, pr, gd, co, c, s) (v, p, sh, ln, pr, gd, co, c, s) L n S hs len t (REFG_34 hr (gV_num (g2 := (updZ g (2 : Int).toNat a)) xV2 rfl rfl (fun j hj => if_neg (by omega)) ⟨(if_neg (by decide)).trans e0, (if_neg (by decide)).trans e1, rfl, (if_neg (by decide)).trans e3, (if_neg (by decide)).trans e4, (if_neg (by decide)).trans e5, (if_neg (by decide)).trans e6⟩)) ⟨hv.2, hp.2⟩ hke hL hn (sh)) (fun r_ w_ h_ => ?_)
        rw [h_.1]
        refine ⟨h_.2.1.1, ?_⟩
        refine r_ret dX5_settles_50 rfl ?_
        refine MA_s (x := sh) (V2 := (v, p, a, ln, pr, gd, co, c, s)) ?_ ⟨rfl, agO.trans ?_ h_.2.1, h_.2.2⟩
        · show (if ¬ (-3 ≤ a ∧ a ≤ 3) then (-102, none) else if sh = a then (-105, none) else (sh, some (v, p, a, ln, pr, gd, co, c, s))) = _
          rw [if_neg (by omega), if_neg (by omega)]
        · exact gr.trans (agO.wst _ (by omega))
      · exfalso
        omega
    · refine r_bipush (pc2 := 23) dX5_settles_21 rfl (by decide) ?_
      refine r_ret dX5_settles_23 rfl ?_
      refine MA_n (x := -105) ?_ rfl agO.rf ⟨g, ke, h⟩
      show (if ¬ (-3 ≤ a ∧ a ≤ 3) then (-102, none) else if sh = a then (-105, none) else (sh, some (v, p, a, ln, pr, gd, co, c, s))) = _
      rw [if_neg (by omega), if_pos (by omega)]
  · have hC : ¬ (-3 ≤ a ∧ a ≤ 3) := bz_z (by omega)
    refine r_bipush (pc2 := 6) dX5_settles_4 rfl (by decide) ?_
    refine r_ret dX5_settles_6 rfl ?_
    refine MA_n (x := -102) ?_ rfl agO.rf ⟨g, ke, h⟩
    show (if ¬ (-3 ≤ a ∧ a ≤ 3) then (-102, none) else if sh = a then (-105, none) else (sh, some (v, p, a, ln, pr, gd, co, c, s))) = _
    rw [if_pos (by omega)]

set_option maxHeartbeats 4000000 in
theorem m_setShift (w : av_W) (v p sh ln pr gd co : Int) (c s : Nat → Int) (L : Nat → CV) (n : Int) (S : CV) (hs len : Int) (t : Nat → Int) (g ke : Nat → Int) (h : REFG w g ke (v, p, sh, ln, pr, gd, co, c, s) L n S hs len t) (hV : KV (v, p, sh, ln, pr, gd, co, c, s)) (hn : 0 ≤ n ∧ n ≤ 4) (hL : ∀ i : Nat, (i : Int) < n → (L i).1 ≤ 4 ∧ (L i).2.1 ≤ 6) (a : Int) (ha : RG a) : cl MX5_setShift [.ref 33, .int (iN a)] w (fun r' w' => MA w w' r' (o_setShift (v, p, sh, ln, pr, gd, co, c, s) a) (v, p, sh, ln, pr, gd, co, c, s) L n S hs len t) := by
  obtain ⟨x42, ⟨xsp, xrv, xrs, xoa, x33w⟩, ⟨x34w, xV⟩, x35w, -⟩ := id h
  have x33 : 33 < w.1 := by omega
  have x34 : 34 < w.1 := by omega
  have haR : -2147483648 ≤ a ∧ a < 2147483648 := ha
  show rn MX5_setShift 0 [some (.ref 33), some (.int (iN a))] [] w _
  refine r_aload_n (pc2 := 1) dX5_setShift_0 rfl rfl ?_
  refine r_iconst (pc2 := 2) dX5_setShift_1 rfl ?_
  refine r_iload_n (pc2 := 3) dX5_setShift_2 rfl rfl ?_
  refine r_iload_n (pc2 := 4) dX5_setShift_3 rfl rfl ?_
  refine r_i2l (pc2 := 5) dX5_setShift_4 rfl (by omega) ?_
  refine r_ldl (pc2 := 8) dX5_setShift_5 rfl kl_5_108 ?_
  refine r_ldl (pc2 := 11) dX5_setShift_8 rfl kl_5_110 ?_
  refine r_calls_3 (pc2 := 14) dX5_setShift_11 rfl rs_5_41 rfl (by decide) rfl (Nat.le_of_ble_eq_true rfl) (Nat.le_of_ble_eq_true rfl) (m_in w a (-3) 3 ⟨by omega, by omega⟩ ⟨by omega, by omega⟩ ⟨by omega, by omega⟩) (fun r_ w_ h_ => ?_)
  rw [h_.1, h_.2]
  clear h_ w_ r_
  refine ⟨rfl, ?_⟩
  refine r_callv_3 (pc2 := 17) dX5_setShift_14 rfl rs_5_104 rfl (by decide) rfl (Nat.le_of_ble_eq_true rfl) (Nat.le_of_ble_eq_true rfl) (by assumption) (by assumption) (m_settles_2 w v p sh ln pr gd co c s L n S hs len t g ke h hV hn hL a ha) (fun r_ w_ h_ => ?_)
  obtain ⟨⟨rx, er⟩, gx⟩ := MA_ex h_
  rw [er]
  refine ⟨gx.1, ?_⟩
  refine r_ret dX5_setShift_17 rfl ?_
  rw [← er]
  exact h_

set_option maxHeartbeats 4000000 in
theorem m_settles_3 (w : av_W) (v p sh ln pr gd co : Int) (c s : Nat → Int) (L : Nat → CV) (n : Int) (S : CV) (hs len : Int) (t : Nat → Int) (g ke : Nat → Int) (h : REFG w g ke (v, p, sh, ln, pr, gd, co, c, s) L n S hs len t) (hV : KV (v, p, sh, ln, pr, gd, co, c, s)) (hn : 0 ≤ n ∧ n ≤ 4) (hL : ∀ i : Nat, (i : Int) < n → (L i).1 ≤ 4 ∧ (L i).2.1 ≤ 6) (a : Int) (ha : RG a) : cl MX5_settles [.ref 33, .int (iN 3), .int (iN a), .int (iN (bz (0 ≤ a ∧ a ≤ 3)))] w (fun r' w' => MA w w' r' (o_setLean (v, p, sh, ln, pr, gd, co, c, s) a) (v, p, sh, ln, pr, gd, co, c, s) L n S hs len t) := by
  obtain ⟨x42, ⟨xsp, xrv, xrs, xoa, x33w⟩, ⟨x34w, xV⟩, x35w, -⟩ := id h
  have x33 : 33 < w.1 := by omega
  have x34 : 34 < w.1 := by omega
  obtain ⟨hK, hS, hc, hpr⟩ := id hV
  have hK : KR v p sh ln := hK
  have hS : SR s := hS
  have hc : ∀ j : Nat, j < 48 → 0 ≤ c j ∧ c j ≤ 9 := hc
  have hpr : 0 ≤ pr ∧ pr ≤ 99999 := hpr
  obtain ⟨hv, hp, hsh, hln⟩ := id hK
  have xV2 : gV (v, p, sh, ln, pr, gd, co, c, s) g := xV
  obtain ⟨⟨e0, e1, e2, e3, e4, e5, e6⟩, -⟩ := id xV2
  have hGR : GR g := ⟨by omega, by omega, by omega, by omega⟩
  have haR : -2147483648 ≤ a ∧ a < 2147483648 := ha
  have hb0 := bz_01 (c := 0 ≤ a ∧ a ≤ 3)
  show rn MX5_settles 0 [some (.ref 33), some (.int (iN 3)), some (.int (iN a)), some (.int (iN (bz (0 ≤ a ∧ a ≤ 3)))), none] [] w _
  refine r_iload_n (pc2 := 1) dX5_settles_0 rfl rfl ?_
  refine r_if_ne (pc2 := 4) (tgt := 7) dX5_settles_1 rfl (by decide) (by omega) (fun h1 => ?_) (fun h1 => ?_)
  · have hC : 0 ≤ a ∧ a ≤ 3 := bz_nz (by omega)
    refine r_aload_n (pc2 := 8) dX5_settles_7 rfl rfl ?_
    refine r_getf (pc2 := 11) dX5_settles_8 rfl fl_5_7 (by assumption) (by assumption) (by rfl) ?_
    refine r_iload_n (pc2 := 12) dX5_settles_11 rfl rfl ?_
    refine r_iald (pc2 := 13) dX5_settles_12 rfl (by decide) (by assumption) (by assumption) (by omega) (by omega) (by omega) ?_
    rw [show g (3 : Int).toNat = ln from e3]
    refine r_ist_4 (pc2 := 15) dX5_settles_13 rfl rfl ?_
    refine r_iload (pc2 := 17) dX5_settles_15 rfl rfl ?_
    refine r_iload_n (pc2 := 18) dX5_settles_17 rfl rfl ?_
    refine r_icmp_ne (pc2 := 21) (tgt := 24) dX5_settles_18 rfl (by decide) (by omega) (by omega) (fun h18 => ?_) (fun h18 => ?_)
    · refine r_aload_n (pc2 := 25) dX5_settles_24 rfl rfl ?_
      refine r_callv_0 (pc2 := 28) dX5_settles_25 rfl rs_5_94 rfl (by decide) rfl (Nat.le_of_ble_eq_true rfl) (Nat.le_of_ble_eq_true rfl) (by assumption) (by assumption) (m_remC _ _ _ (v, p, sh, ln, pr, gd, co, c, s) _ _ _ _ _ _ h ⟨hv.2, hp.2⟩) (fun r_ w_ h_ => ?_)
      obtain ⟨e_, gr, ke2, hr, hke⟩ := h_
      rw [e_]
      clear e_
      obtain ⟨wr, rfl⟩ : ∃ wr, wr = w_ := ⟨_, rfl⟩
      obtain ⟨y42, ⟨ysp, yrv, yrs, yoa, y33w⟩, ⟨y34w, yV⟩, y35w, -⟩ := id hr
      have y33 : 33 < wr.1 := by omega
      have y34 : 34 < wr.1 := by omega
      refine ⟨gr.1, ?_⟩
      refine r_aload_n (pc2 := 29) dX5_settles_28 rfl rfl ?_
      refine r_getf (pc2 := 32) dX5_settles_29 rfl fl_5_7 (by assumption) (by assumption) (by rfl) ?_
      refine r_iload_n (pc2 := 33) dX5_settles_32 rfl rfl ?_
      refine r_iload_n (pc2 := 34) dX5_settles_33 rfl rfl ?_
      refine r_iast (pc2 := 35) dX5_settles_34 rfl (by assumption) (by assumption) (by omega) (by omega) (by omega) ?_
      have z33 : 33 < (wst wr 34 (arO 61 (updZ g (3 : Int).toNat a))).1 := y33
      have z33w := (wst_ne (w := wr) (a := 34) (b := 33) (e := arO 61 (updZ g (3 : Int).toNat a)) (by decide)).trans y33w
      refine r_iload_n (pc2 := 36) dX5_settles_35 rfl rfl ?_
      refine r_iconst (pc2 := 37) dX5_settles_36 rfl ?_
      refine r_icmp_ne (pc2 := 40) (tgt := 44) dX5_settles_37 rfl (by decide) (by omega) (by omega) (fun h37 => ?_) (fun h37 => ?_)
      · refine r_aload_n (pc2 := 45) dX5_settles_44 rfl rfl ?_
        refine r_iload (pc2 := 47) dX5_settles_45 rfl rfl ?_
        refine r_callv_1 (pc2 := 50) dX5_settles_47 rfl rs_5_97 rfl (by decide) rfl (Nat.le_of_ble_eq_true rfl) (Nat.le_of_ble_eq_true rfl) (by assumption) (by assumption) (m_actC _ _ ke2 (v, p, sh, a, pr, gd, co, c, s) (v, p, sh, ln, pr, gd, co, c, s) L n S hs len t (REFG_34 hr (gV_num (g2 := (updZ g (3 : Int).toNat a)) xV2 rfl rfl (fun j hj => if_neg (by omega)) ⟨(if_neg (by decide)).trans e0, (if_neg (by decide)).trans e1, (if_neg (by decide)).trans e2, rfl, (if_neg (by decide)).trans e4, (if_neg (by decide)).trans e5, (if_neg (by decide)).trans e6⟩)) ⟨hv.2, hp.2⟩ hke hL hn (ln)) (fun r_ w_ h_ => ?_)
        rw [h_.1]
        refine ⟨h_.2.1.1, ?_⟩
        refine r_ret dX5_settles_50 rfl ?_
        refine MA_s (x := ln) (V2 := (v, p, sh, a, pr, gd, co, c, s)) ?_ ⟨rfl, agO.trans ?_ h_.2.1, h_.2.2⟩
        · show (if ¬ (0 ≤ a ∧ a ≤ 3) then (-102, none) else if ln = a then (-105, none) else (ln, some (v, p, sh, a, pr, gd, co, c, s))) = _
          rw [if_neg (by omega), if_neg (by omega)]
        · exact gr.trans (agO.wst _ (by omega))
      · exfalso
        omega
    · refine r_bipush (pc2 := 23) dX5_settles_21 rfl (by decide) ?_
      refine r_ret dX5_settles_23 rfl ?_
      refine MA_n (x := -105) ?_ rfl agO.rf ⟨g, ke, h⟩
      show (if ¬ (0 ≤ a ∧ a ≤ 3) then (-102, none) else if ln = a then (-105, none) else (ln, some (v, p, sh, a, pr, gd, co, c, s))) = _
      rw [if_neg (by omega), if_pos (by omega)]
  · have hC : ¬ (0 ≤ a ∧ a ≤ 3) := bz_z (by omega)
    refine r_bipush (pc2 := 6) dX5_settles_4 rfl (by decide) ?_
    refine r_ret dX5_settles_6 rfl ?_
    refine MA_n (x := -102) ?_ rfl agO.rf ⟨g, ke, h⟩
    show (if ¬ (0 ≤ a ∧ a ≤ 3) then (-102, none) else if ln = a then (-105, none) else (ln, some (v, p, sh, a, pr, gd, co, c, s))) = _
    rw [if_pos (by omega)]

set_option maxHeartbeats 4000000 in
theorem m_setLean (w : av_W) (v p sh ln pr gd co : Int) (c s : Nat → Int) (L : Nat → CV) (n : Int) (S : CV) (hs len : Int) (t : Nat → Int) (g ke : Nat → Int) (h : REFG w g ke (v, p, sh, ln, pr, gd, co, c, s) L n S hs len t) (hV : KV (v, p, sh, ln, pr, gd, co, c, s)) (hn : 0 ≤ n ∧ n ≤ 4) (hL : ∀ i : Nat, (i : Int) < n → (L i).1 ≤ 4 ∧ (L i).2.1 ≤ 6) (a : Int) (ha : RG a) : cl MX5_setLean [.ref 33, .int (iN a)] w (fun r' w' => MA w w' r' (o_setLean (v, p, sh, ln, pr, gd, co, c, s) a) (v, p, sh, ln, pr, gd, co, c, s) L n S hs len t) := by
  obtain ⟨x42, ⟨xsp, xrv, xrs, xoa, x33w⟩, ⟨x34w, xV⟩, x35w, -⟩ := id h
  have x33 : 33 < w.1 := by omega
  have x34 : 34 < w.1 := by omega
  have haR : -2147483648 ≤ a ∧ a < 2147483648 := ha
  show rn MX5_setLean 0 [some (.ref 33), some (.int (iN a))] [] w _
  refine r_aload_n (pc2 := 1) dX5_setLean_0 rfl rfl ?_
  refine r_iconst (pc2 := 2) dX5_setLean_1 rfl ?_
  refine r_iload_n (pc2 := 3) dX5_setLean_2 rfl rfl ?_
  refine r_iload_n (pc2 := 4) dX5_setLean_3 rfl rfl ?_
  refine r_i2l (pc2 := 5) dX5_setLean_4 rfl (by omega) ?_
  refine r_lconst (z := 0) (pc2 := 6) dX5_setLean_5 rfl (by decide) ?_
  refine r_ldl (pc2 := 9) dX5_setLean_6 rfl kl_5_110 ?_
  refine r_calls_3 (pc2 := 12) dX5_setLean_9 rfl rs_5_41 rfl (by decide) rfl (Nat.le_of_ble_eq_true rfl) (Nat.le_of_ble_eq_true rfl) (m_in w a 0 3 ⟨by omega, by omega⟩ ⟨by omega, by omega⟩ ⟨by omega, by omega⟩) (fun r_ w_ h_ => ?_)
  rw [h_.1, h_.2]
  clear h_ w_ r_
  refine ⟨rfl, ?_⟩
  refine r_callv_3 (pc2 := 15) dX5_setLean_12 rfl rs_5_104 rfl (by decide) rfl (Nat.le_of_ble_eq_true rfl) (Nat.le_of_ble_eq_true rfl) (by assumption) (by assumption) (m_settles_3 w v p sh ln pr gd co c s L n S hs len t g ke h hV hn hL a ha) (fun r_ w_ h_ => ?_)
  obtain ⟨⟨rx, er⟩, gx⟩ := MA_ex h_
  rw [er]
  refine ⟨gx.1, ?_⟩
  refine r_ret dX5_setLean_15 rfl ?_
  rw [← er]
  exact h_

theorem gV_first {v p sh ln pr gd co : Int} {c s g : Nat → Int} (hp : p ≤ 6) (e : g 0 = v ∧ g 1 = p ∧ g 2 = sh ∧ g 3 = ln ∧ g 4 = pr ∧ g 5 = gd ∧ g 6 = co) (b3 : ∀ j : Nat, (j : Int) < 12 * v → g (13 + j) = c j) (b4 : ∀ j : Nat, 12 * v ≤ (j : Int) → j < 48 → g (13 + j) = 0) : gV (v, p, sh, ln, pr, gd, co, c, preF 6 (inT v) s) (rgF 7 6 (oaF v p) g) := by
  have ne : ∀ j : Nat, (j < 7 ∨ 13 ≤ j) → rgF 7 6 (oaF v p) g j = g j := fun j hj => rgF_out (by omega)
  obtain ⟨a0, a1, a2, a3, a4, a5, a6⟩ := e
  refine ⟨⟨(ne 0 (by omega)).trans a0, (ne 1 (by omega)).trans a1, (ne 2 (by omega)).trans a2, (ne 3 (by omega)).trans a3, (ne 4 (by omega)).trans a4, (ne 5 (by omega)).trans a5, (ne 6 (by omega)).trans a6⟩, fun j hj => ?_, fun j hj hj2 => ?_, fun j hj => (ne (13 + j) (by omega)).trans (b3 j hj), fun j hj hj2 => (ne (13 + j) (by omega)).trans (b4 j hj hj2)⟩
  · show rgF 7 6 (oaF v p) g (7 + j) = preF 6 (inT v) s j
    rw [rgF_in (by omega), preF_lt (by omega), show 7 + j = (7 + (j : Int)).toNat by omega, oaF_t (by omega) hj]
    rfl
  · show rgF 7 6 (oaF v p) g (7 + j) = 0
    rw [rgF_in (by omega), show 7 + j = (7 + (j : Int)).toNat by omega, oaF_f (by omega) hj]

set_option maxHeartbeats 4000000 in
theorem m_settles_1 (w : av_W) (v p sh ln pr gd co : Int) (c s : Nat → Int) (L : Nat → CV) (n : Int) (S : CV) (hs len : Int) (t : Nat → Int) (g ke : Nat → Int) (h : REFG w g ke (v, p, sh, ln, pr, gd, co, c, s) L n S hs len t) (hV : KV (v, p, sh, ln, pr, gd, co, c, s)) (hn : 0 ≤ n ∧ n ≤ 4) (hL : ∀ i : Nat, (i : Int) < n → (L i).1 ≤ 4 ∧ (L i).2.1 ≤ 6) (a : Int) (ha : RG a) : cl MX5_settles [.ref 33, .int (iN 1), .int (iN a), .int (iN (bz (2 ≤ a ∧ a ≤ 6)))] w (fun r' w' => MA w w' r' (o_setPitch (v, p, sh, ln, pr, gd, co, c, s) a) (v, p, sh, ln, pr, gd, co, c, s) L n S hs len t) := by
  obtain ⟨x42, ⟨xsp, xrv, xrs, xoa, x33w⟩, ⟨x34w, xV⟩, x35w, -⟩ := id h
  have x33 : 33 < w.1 := by omega
  have x34 : 34 < w.1 := by omega
  obtain ⟨hK, hS, hc, hpr⟩ := id hV
  have hK : KR v p sh ln := hK
  have hS : SR s := hS
  have hc : ∀ j : Nat, j < 48 → 0 ≤ c j ∧ c j ≤ 9 := hc
  have hpr : 0 ≤ pr ∧ pr ≤ 99999 := hpr
  obtain ⟨hv, hp, hsh, hln⟩ := id hK
  have xV2 : gV (v, p, sh, ln, pr, gd, co, c, s) g := xV
  obtain ⟨⟨e0, e1, e2, e3, e4, e5, e6⟩, -⟩ := id xV2
  have hGR : GR g := ⟨by omega, by omega, by omega, by omega⟩
  have haR : -2147483648 ≤ a ∧ a < 2147483648 := ha
  have hb0 := bz_01 (c := 2 ≤ a ∧ a ≤ 6)
  show rn MX5_settles 0 [some (.ref 33), some (.int (iN 1)), some (.int (iN a)), some (.int (iN (bz (2 ≤ a ∧ a ≤ 6)))), none] [] w _
  refine r_iload_n (pc2 := 1) dX5_settles_0 rfl rfl ?_
  refine r_if_ne (pc2 := 4) (tgt := 7) dX5_settles_1 rfl (by decide) (by omega) (fun h1 => ?_) (fun h1 => ?_)
  · have hC : 2 ≤ a ∧ a ≤ 6 := bz_nz (by omega)
    refine r_aload_n (pc2 := 8) dX5_settles_7 rfl rfl ?_
    refine r_getf (pc2 := 11) dX5_settles_8 rfl fl_5_7 (by assumption) (by assumption) (by rfl) ?_
    refine r_iload_n (pc2 := 12) dX5_settles_11 rfl rfl ?_
    refine r_iald (pc2 := 13) dX5_settles_12 rfl (by decide) (by assumption) (by assumption) (by omega) (by omega) (by omega) ?_
    rw [show g (1 : Int).toNat = p from e1]
    refine r_ist_4 (pc2 := 15) dX5_settles_13 rfl rfl ?_
    refine r_iload (pc2 := 17) dX5_settles_15 rfl rfl ?_
    refine r_iload_n (pc2 := 18) dX5_settles_17 rfl rfl ?_
    refine r_icmp_ne (pc2 := 21) (tgt := 24) dX5_settles_18 rfl (by decide) (by omega) (by omega) (fun h18 => ?_) (fun h18 => ?_)
    · refine r_aload_n (pc2 := 25) dX5_settles_24 rfl rfl ?_
      refine r_callv_0 (pc2 := 28) dX5_settles_25 rfl rs_5_94 rfl (by decide) rfl (Nat.le_of_ble_eq_true rfl) (Nat.le_of_ble_eq_true rfl) (by assumption) (by assumption) (m_remC _ _ _ (v, p, sh, ln, pr, gd, co, c, s) _ _ _ _ _ _ h ⟨hv.2, hp.2⟩) (fun r_ w_ h_ => ?_)
      obtain ⟨e_, gr, ke2, hr, hke⟩ := h_
      rw [e_]
      clear e_
      obtain ⟨wr, rfl⟩ : ∃ wr, wr = w_ := ⟨_, rfl⟩
      obtain ⟨y42, ⟨ysp, yrv, yrs, yoa, y33w⟩, ⟨y34w, yV⟩, y35w, -⟩ := id hr
      have y33 : 33 < wr.1 := by omega
      have y34 : 34 < wr.1 := by omega
      refine ⟨gr.1, ?_⟩
      refine r_aload_n (pc2 := 29) dX5_settles_28 rfl rfl ?_
      refine r_getf (pc2 := 32) dX5_settles_29 rfl fl_5_7 (by assumption) (by assumption) (by rfl) ?_
      refine r_iload_n (pc2 := 33) dX5_settles_32 rfl rfl ?_
      refine r_iload_n (pc2 := 34) dX5_settles_33 rfl rfl ?_
      refine r_iast (pc2 := 35) dX5_settles_34 rfl (by assumption) (by assumption) (by omega) (by omega) (by omega) ?_
      have z33 : 33 < (wst wr 34 (arO 61 (updZ g (1 : Int).toNat a))).1 := y33
      have z33w := (wst_ne (w := wr) (a := 34) (b := 33) (e := arO 61 (updZ g (1 : Int).toNat a)) (by decide)).trans y33w
      have en0 : (updZ g (1 : Int).toNat a) 0 = v := (if_neg (by decide)).trans e0
      have en1 : (updZ g (1 : Int).toNat a) 1 = a := rfl
      have en2 : (updZ g (1 : Int).toNat a) 2 = sh := (if_neg (by decide)).trans e2
      have en3 : (updZ g (1 : Int).toNat a) 3 = ln := (if_neg (by decide)).trans e3
      refine r_iload_n (pc2 := 36) dX5_settles_35 rfl rfl ?_
      refine r_iconst (pc2 := 37) dX5_settles_36 rfl ?_
      refine r_icmp_ne (pc2 := 40) (tgt := 44) dX5_settles_37 rfl (by decide) (by omega) (by omega) (fun h37 => ?_) (fun h37 => ?_)
      · exfalso
        omega
      · refine r_aload_n (pc2 := 41) dX5_settles_40 rfl rfl ?_
        refine r_callv_0 (pc2 := 44) dX5_settles_41 rfl rs_5_34 rfl (by decide) rfl (Nat.le_of_ble_eq_true rfl) (Nat.le_of_ble_eq_true rfl) (by assumption) (by assumption) (m_ordersAsFirst (wst wr 34 (arO 61 (updZ g (1 : Int).toNat a))) y42 _ _ _ _ _ _ _ z33w (updZ g (1 : Int).toNat a) wst_self ⟨by omega, by omega, by omega, by omega⟩) (fun r_ w_ h_ => ?_)
        rw [h_.1, h_.2, en0, en1, wst_wst]
        clear h_ w_ r_
        have u33 : 33 < (wst wr 34 (arO 61 (rgF 7 6 (oaF v a) (updZ g (1 : Int).toNat a)))).1 := y33
        have u33w := (wst_ne (w := wr) (a := 34) (b := 33) (e := arO 61 (rgF 7 6 (oaF v a) (updZ g (1 : Int).toNat a))) (by decide)).trans y33w
        refine ⟨rfl, ?_⟩
        refine r_aload_n (pc2 := 45) dX5_settles_44 rfl rfl ?_
        refine r_iload (pc2 := 47) dX5_settles_45 rfl rfl ?_
        refine r_callv_1 (pc2 := 50) dX5_settles_47 rfl rs_5_97 rfl (by decide) rfl (Nat.le_of_ble_eq_true rfl) (Nat.le_of_ble_eq_true rfl) (by assumption) (by assumption) (m_actC _ _ ke2 (v, a, sh, ln, pr, gd, co, c, preF 6 (inT v) s) (v, p, sh, ln, pr, gd, co, c, s) L n S hs len t (REFG_34 hr (gV_first (g := (updZ g (1 : Int).toNat a)) (by omega) ⟨en0, en1, (if_neg (by decide)).trans e2, (if_neg (by decide)).trans e3, (if_neg (by decide)).trans e4, (if_neg (by decide)).trans e5, (if_neg (by decide)).trans e6⟩ (fun j hj => (if_neg (by omega)).trans (xV2.2.2.2.1 j hj)) (fun j hj hj2 => (if_neg (by omega)).trans (xV2.2.2.2.2 j hj hj2)))) ⟨hv.2, by dsimp only; omega⟩ hke hL hn p) (fun r_ w_ h_ => ?_)
        rw [h_.1]
        refine ⟨h_.2.1.1, ?_⟩
        refine r_ret dX5_settles_50 rfl ?_
        refine MA_s (x := p) (V2 := (v, a, sh, ln, pr, gd, co, c, preF 6 (inT v) s)) ?_ ⟨rfl, agO.trans ?_ h_.2.1, h_.2.2⟩
        · show (if ¬ (2 ≤ a ∧ a ≤ 6) then (-102, none) else if p = a then (-105, none) else (p, some (v, a, sh, ln, pr, gd, co, c, preF 6 (inT v) s))) = _
          rw [if_neg (by omega), if_neg (by omega)]
        · exact gr.trans (agO.wst _ (by omega))
    · refine r_bipush (pc2 := 23) dX5_settles_21 rfl (by decide) ?_
      refine r_ret dX5_settles_23 rfl ?_
      refine MA_n (x := -105) ?_ rfl agO.rf ⟨g, ke, h⟩
      show (if ¬ (2 ≤ a ∧ a ≤ 6) then (-102, none) else if p = a then (-105, none) else (p, some (v, a, sh, ln, pr, gd, co, c, preF 6 (inT v) s))) = _
      rw [if_neg (by omega), if_pos (by omega)]
  · have hC : ¬ (2 ≤ a ∧ a ≤ 6) := bz_z (by omega)
    refine r_bipush (pc2 := 6) dX5_settles_4 rfl (by decide) ?_
    refine r_ret dX5_settles_6 rfl ?_
    refine MA_n (x := -102) ?_ rfl agO.rf ⟨g, ke, h⟩
    show (if ¬ (2 ≤ a ∧ a ≤ 6) then (-102, none) else if p = a then (-105, none) else (p, some (v, a, sh, ln, pr, gd, co, c, preF 6 (inT v) s))) = _
    rw [if_pos (by omega)]

set_option maxHeartbeats 4000000 in
theorem m_setPitch (w : av_W) (v p sh ln pr gd co : Int) (c s : Nat → Int) (L : Nat → CV) (n : Int) (S : CV) (hs len : Int) (t : Nat → Int) (g ke : Nat → Int) (h : REFG w g ke (v, p, sh, ln, pr, gd, co, c, s) L n S hs len t) (hV : KV (v, p, sh, ln, pr, gd, co, c, s)) (hn : 0 ≤ n ∧ n ≤ 4) (hL : ∀ i : Nat, (i : Int) < n → (L i).1 ≤ 4 ∧ (L i).2.1 ≤ 6) (a : Int) (ha : RG a) : cl MX5_setPitch [.ref 33, .int (iN a)] w (fun r' w' => MA w w' r' (o_setPitch (v, p, sh, ln, pr, gd, co, c, s) a) (v, p, sh, ln, pr, gd, co, c, s) L n S hs len t) := by
  obtain ⟨x42, ⟨xsp, xrv, xrs, xoa, x33w⟩, ⟨x34w, xV⟩, x35w, -⟩ := id h
  have x33 : 33 < w.1 := by omega
  have x34 : 34 < w.1 := by omega
  have haR : -2147483648 ≤ a ∧ a < 2147483648 := ha
  show rn MX5_setPitch 0 [some (.ref 33), some (.int (iN a))] [] w _
  refine r_aload_n (pc2 := 1) dX5_setPitch_0 rfl rfl ?_
  refine r_iconst (pc2 := 2) dX5_setPitch_1 rfl ?_
  refine r_iload_n (pc2 := 3) dX5_setPitch_2 rfl rfl ?_
  refine r_iload_n (pc2 := 4) dX5_setPitch_3 rfl rfl ?_
  refine r_i2l (pc2 := 5) dX5_setPitch_4 rfl (by omega) ?_
  refine r_ldl (pc2 := 8) dX5_setPitch_5 rfl kl_5_100 ?_
  refine r_ldl (pc2 := 11) dX5_setPitch_8 rfl kl_5_102 ?_
  refine r_calls_3 (pc2 := 14) dX5_setPitch_11 rfl rs_5_41 rfl (by decide) rfl (Nat.le_of_ble_eq_true rfl) (Nat.le_of_ble_eq_true rfl) (m_in w a 2 6 ⟨by omega, by omega⟩ ⟨by omega, by omega⟩ ⟨by omega, by omega⟩) (fun r_ w_ h_ => ?_)
  rw [h_.1, h_.2]
  clear h_ w_ r_
  refine ⟨rfl, ?_⟩
  refine r_callv_3 (pc2 := 17) dX5_setPitch_14 rfl rs_5_104 rfl (by decide) rfl (Nat.le_of_ble_eq_true rfl) (Nat.le_of_ble_eq_true rfl) (by assumption) (by assumption) (m_settles_1 w v p sh ln pr gd co c s L n S hs len t g ke h hV hn hL a ha) (fun r_ w_ h_ => ?_)
  obtain ⟨⟨rx, er⟩, gx⟩ := MA_ex h_
  rw [er]
  refine ⟨gx.1, ?_⟩
  refine r_ret dX5_setPitch_17 rfl ?_
  rw [← er]
  exact h_
