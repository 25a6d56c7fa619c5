/-! the reference: order, press -/
theorem m_remD (w : av_W) (g ke : Nat → Int) (V : CV) (L : Nat → CV) (n : Int) (S : CV) (hs len : Int) (t : Nat → Int) (h : REFG w g ke V L n S hs len t) (hk : V.1 ≤ 4 ∧ V.2.1 ≤ 6) : cl MX5_remember [.ref 33] w (fun r' w' => r' = none ∧ agO 33 42 w w' ∧ (∀ k : Nat, k ≠ 35 → w'.2.2 k = w.2.2 k) ∧ ∃ ke2, REFG w' g ke2 V L n S hs len t ∧ gV V ke2) := by
  obtain ⟨a0, ⟨sp, rv, rs, oa, a1⟩, ⟨a2, a2b⟩, a3, -⟩ := id h
  refine (m_remember w a0 n hs len sp rv rs oa a1 g a2 ke a3).imp (fun r' w' q => ?_)
  obtain ⟨e1, e2⟩ := q
  rw [e1, e2]
  exact ⟨rfl, agO.wst _ (by omega), fun k hk => wst_ne hk, _, REFG_35 h, gV_congr hk (fun j hj => (preF_lt (by omega)).symm) a2b⟩
theorem gV_ord {v p sh ln pr gd co : Int} {c s g B b : Nat → Int} (q : gV (v, p, sh, ln, pr, gd, co, c, s) g) (hp : 2 ≤ p ∧ p ≤ 6) (hB : ∀ j : Nat, j < p.toNat → B j = b j) : gV (v, p, sh, ln, pr, gd, co, c, preF 6 b s) (rgF 7 p (fun j => B (j - 7)) g) := by
  obtain ⟨⟨a0, a1, a2, a3, a4, a5, a6⟩, b1, b2, b3, b4⟩ := q
  have ne : ∀ j : Nat, (j < 7 ∨ 13 ≤ j) → rgF 7 p (fun j => B (j - 7)) g j = g j := fun j hj => rgF_out (by omega)
  refine ⟨⟨(ne 0 (by omega)).trans a0, (ne 1 (by omega)).trans a1, (ne 2 (by omega)).trans a2, (ne 3 (by omega)).trans a3, (ne 4 (by omega)).trans a4, (ne 5 (by omega)).trans a5, (ne 6 (by omega)).trans a6⟩, fun j hj => ?_, fun j hj hj2 => (rgF_out (by omega)).trans (b2 j hj hj2), fun j hj => (ne (13 + j) (by omega)).trans (b3 j hj), fun j hj hj2 => (ne (13 + j) (by omega)).trans (b4 j hj hj2)⟩
  show rgF 7 p (fun j => B (j - 7)) g (7 + j) = preF 6 b s j
  rw [rgF_in (by omega), preF_lt (by omega), show 7 + j - 7 = j by omega]
  exact hB j (by omega)
theorem ord_st {k : Int} {B g : Nat → Int} (hk : 0 ≤ k) : updZ (rgF 7 k (fun j => B (j - 7)) g) (7 + k).toNat (B k.toNat) = rgF 7 (k + 1) (fun j => B (j - 7)) g := by
  rw [← rgF_step (by omega) hk]
  congr 2
  omega

set_option maxHeartbeats 4000000 in
theorem m_order (w : av_W) (v p sh ln pr gd co : Int) (c s : Nat → Int) (L : Nat → CV) (n : Int) (S : CV) (hs len : Int) (t : Nat → Int) (g ke : Nat → Int) (h : REFG w g ke (v, p, sh, ln, pr, gd, co, c, s) L n S hs len t) (hW : KW (v, p, sh, ln, pr, gd, co, c, s)) (hn : 0 ≤ n ∧ n ≤ 4) (hL : ∀ i : Nat, (i : Int) < n → (L i).1 ≤ 4 ∧ (L i).2.1 ≤ 6) (b : Nat → Int) (hbo : bestO v p sh ln b) : cl MX5_order [.ref 33] w (fun r' w' => MA w w' r' (o_order (v, p, sh, ln, pr, gd, co, c, s) b) (v, p, sh, ln, pr, gd, co, c, s) L n S hs len t) := by
  obtain ⟨x42, ⟨xsp, xrv, xrs, xoa, x33w⟩, ⟨x34w, xV⟩, x35w, -⟩ := id h
  have x33 : 33 < w.1 := by omega
  have x34 : 34 < w.1 := by omega
  have hV : KV (v, p, sh, ln, pr, gd, co, c, s) := hW.1
  have hSV : ∀ j : Nat, (j : Int) < p → s j < v := hW.2
  obtain ⟨hK, hS, hc, hpr⟩ := id hV
  have hK : KR v p sh ln := hK
  have hS : SR s := hS
  have hc : ∀ j : Nat, j < 48 → 0 ≤ c j ∧ c j ≤ 9 := hc
  have hpr : 0 ≤ pr ∧ pr ≤ 99999 := hpr
  obtain ⟨hv, hp, hsh, hln⟩ := id hK
  have xV2 : gV (v, p, sh, ln, pr, gd, co, c, s) g := xV
  obtain ⟨⟨e0, e1, e2, e3, e4, e5, e6⟩, -⟩ := id xV2
  have hGR : GR g := ⟨by omega, by omega, by omega, by omega⟩
  have hGS : GS g := gV_GS xV2 hS
  obtain ⟨-, -, -, -, -, -, ⟨so, a8⟩, ⟨be, a9⟩, ⟨hd, b1⟩, -⟩ := id h
  show rn MX5_order 0 [some (.ref 33), none, none] [] w _
  refine r_aload_n (pc2 := 1) dX5_order_0 rfl rfl ?_
  refine r_callv_0 (pc2 := 4) dX5_order_1 rfl rs_5_118 rfl (by decide) rfl (Nat.le_of_ble_eq_true rfl) (Nat.le_of_ble_eq_true rfl) (by assumption) (by assumption) (m_findsOrder w x42 _ _ _ _ _ _ _ x33w g x34w hGR hGS so a8 be hd a9 b1) (fun r_ w_ h_ => ?_)
  obtain ⟨e_, eW⟩ := h_
  rw [e_]
  clear e_
  rw [e0, e1, e2, e3] at eW
  have hr0 : REFG w_ g ke (v, p, sh, ln, pr, gd, co, c, s) L n S hs len t := by rw [eW]; exact REFG_mdW h xV2
  have gr0 : agO 33 42 w w_ := by rw [eW]; exact mdW_ag _ _ _ _ _
  have u39w : w_.2.2 39 = arO 6 (bsB g be (bsR g (preF 228 (loF p sh ln) so) (mnR v p 6).toNat).2) := by rw [eW]; exact mdW_at39
  clear eW
  have hB0 : ∀ j : Nat, j < p.toNat → (bsB g be (bsR g (preF 228 (loF p sh ln) so) (mnR v p 6).toNat).2) j = b j := bsB_best e0 e1 hv hp hbo
  generalize (bsB g be (bsR g (preF 228 (loF p sh ln) so) (mnR v p 6).toNat).2) = B0 at u39w hB0
  obtain ⟨u, rfl⟩ : ∃ u, u = w_ := ⟨_, rfl⟩
  obtain ⟨u42, ⟨usp, urv, urs, uoa, u33w⟩, ⟨u34w, uV⟩, u35w, -⟩ := id hr0
  have u33 : 33 < u.1 := by omega
  have u34 : 34 < u.1 := by omega
  have u39 : 39 < u.1 := by omega
  refine ⟨gr0.1, ?_⟩
  refine r_iconst (pc2 := 5) dX5_order_4 rfl ?_
  refine r_ist_1 (pc2 := 6) dX5_order_5 rfl rfl ?_
  refine r_iconst (pc2 := 7) dX5_order_6 rfl ?_
  refine r_ist_2 (pc2 := 8) dX5_order_7 rfl rfl ?_
  have inner1 : ∀ (m : Nat) (k : Int) (is : Int), ((0 ≤ k ∧ k ≤ p) ∧ p + 1 ≤ k + m) → (is = 0 ∨ is = 1) → (is = 1 ↔ ∀ j : Nat, (j : Int) < k → s j = b j) → rn MX5_order 8 [some (.ref 33), some (.int (iN is)), some (.int (iN k))] [] u (fun r' w' => MA w w' r' (o_order (v, p, sh, ln, pr, gd, co, c, s) b) (v, p, sh, ln, pr, gd, co, c, s) L n S hs len t) := by
    intro m
    induction m with
    | zero =>
      intro k is hk0 hk1 hk2
      exfalso
      omega
    | succ m ih =>
      intro k is hk0 hk1 hk2
      have hb6 := hbo.2.2.1
      refine r_iload_n (pc2 := 9) dX5_order_8 rfl rfl ?_
      refine r_aload_n (pc2 := 10) dX5_order_9 rfl rfl ?_
      refine r_getf (pc2 := 13) dX5_order_10 rfl fl_5_7 (by assumption) (by assumption) (by rfl) ?_
      refine r_iconst (pc2 := 14) dX5_order_13 rfl ?_
      refine r_ialk (k := 1) (pc2 := 15) dX5_order_14 rfl (by decide) (by assumption) (by assumption) (by omega) (by omega) (by omega) (by decide) ?_
      rw [show g 1 = p from e1]
      refine r_icmp_ge (pc2 := 18) (tgt := 52) dX5_order_15 rfl (by decide) (by omega) (by omega) (fun h15 => ?_) (fun h15 => ?_)
      · have h6 : k = p := by omega
        refine r_iload_n (pc2 := 53) dX5_order_52 rfl rfl ?_
        refine r_if_eq (pc2 := 56) (tgt := 59) dX5_order_53 rfl (by decide) (by omega) (fun h53 => ?_) (fun h53 => ?_)
        · have hne : ¬ (∀ j : Nat, j < p.toNat → s j = b j) := fun x => absurd (hk2.2 (fun j hj => x j (by omega))) (by omega)
          refine r_aload_n (pc2 := 60) dX5_order_59 rfl rfl ?_
          refine r_callv_0 (pc2 := 63) dX5_order_60 rfl rs_5_94 rfl (by decide) rfl (Nat.le_of_ble_eq_true rfl) (Nat.le_of_ble_eq_true rfl) (by assumption) (by assumption) (m_remD _ _ _ (v, p, sh, ln, pr, gd, co, c, s) _ _ _ _ _ _ hr0 ⟨hv.2, hp.2⟩) (fun r_ w_ h_ => ?_)
          obtain ⟨e_, gr, gf, ke2, hr, hke⟩ := h_
          rw [e_]
          clear e_
          obtain ⟨wr, rfl⟩ : ∃ wr, wr = w_ := ⟨_, rfl⟩
          obtain ⟨y42, ⟨ysp, yrv, yrs, yoa, y33w⟩, ⟨y34w, yV⟩, y35w, -⟩ := id hr
          have y33 : 33 < wr.1 := by omega
          have y34 : 34 < wr.1 := by omega
          have y39w : wr.2.2 39 = arO 6 B0 := (gf 39 (by decide)).trans u39w
          have y39 : 39 < wr.1 := by omega
          refine ⟨gr.1, ?_⟩
          refine r_iconst (pc2 := 64) dX5_order_63 rfl ?_
          refine r_ist_2 (pc2 := 65) dX5_order_64 rfl rfl ?_
          have inner2 : ∀ (m : Nat) (k : Int), ((0 ≤ k ∧ k ≤ p) ∧ p + 1 ≤ k + m) → rn MX5_order 65 [some (.ref 33), some (.int (iN is)), some (.int (iN k))] [] (wst wr 34 (arO 61 (rgF 7 k (fun j => B0 (j - 7)) g))) (fun r' w' => MA w w' r' (o_order (v, p, sh, ln, pr, gd, co, c, s) b) (v, p, sh, ln, pr, gd, co, c, s) L n S hs len t) := by
            intro m
            induction m with
            | zero =>
              intro k hk0
              exfalso
              omega
            | succ m ih =>
              intro k hk0
              have z33 : 33 < (wst wr 34 (arO 61 (rgF 7 k (fun j => B0 (j - 7)) g))).1 := y33
              have z33w := (wst_ne (w := wr) (a := 34) (b := 33) (e := arO 61 (rgF 7 k (fun j => B0 (j - 7)) g)) (by decide)).trans y33w
              have z34 : 34 < (wst wr 34 (arO 61 (rgF 7 k (fun j => B0 (j - 7)) g))).1 := y34
              have z34w : (wst wr 34 (arO 61 (rgF 7 k (fun j => B0 (j - 7)) g))).2.2 34 = arO 61 (rgF 7 k (fun j => B0 (j - 7)) g) := wst_self
              have z39 : 39 < (wst wr 34 (arO 61 (rgF 7 k (fun j => B0 (j - 7)) g))).1 := y39
              have z39w : (wst wr 34 (arO 61 (rgF 7 k (fun j => B0 (j - 7)) g))).2.2 39 = arO 6 B0 := (wst_ne (by decide)).trans y39w
              refine r_iload_n (pc2 := 66) dX5_order_65 rfl rfl ?_
              refine r_aload_n (pc2 := 67) dX5_order_66 rfl rfl ?_
              refine r_getf (pc2 := 70) dX5_order_67 rfl fl_5_7 (by assumption) (by assumption) (by rfl) ?_
              refine r_iconst (pc2 := 71) dX5_order_70 rfl ?_
              refine r_ialk (k := 1) (pc2 := 72) dX5_order_71 rfl (by decide) (by assumption) (by assumption) (by omega) (by omega) (by omega) (by decide) ?_
              rw [show (rgF 7 k (fun j => B0 (j - 7)) g) 1 = p from (rgF_out (by omega)).trans e1]
              refine r_icmp_ge (pc2 := 75) (tgt := 96) dX5_order_72 rfl (by decide) (by omega) (by omega) (fun h72 => ?_) (fun h72 => ?_)
              · have h6 : k = p := by omega
                subst h6
                have hrA := REFG_34 hr (gV_ord xV2 hp hB0)
                refine r_aload_n (pc2 := 97) dX5_order_96 rfl rfl ?_
                refine r_aload_n (pc2 := 98) dX5_order_97 rfl rfl ?_
                refine r_callv_0 (pc2 := 101) dX5_order_98 rfl rs_5_121 rfl (by decide) rfl (Nat.le_of_ble_eq_true rfl) (Nat.le_of_ble_eq_true rfl) (by assumption) (by assumption) (m_ghostsNowC _ v k sh ln pr gd co c (preF 6 b s) L n S hs len t _ ke2 hrA ⟨hK, SR_pre hbo.2.2.1, hc, hpr⟩) (fun r_ w_ h_ => ?_)
                obtain ⟨e_, gq, hq⟩ := h_
                rw [e_]
                clear e_
                obtain ⟨wq, rfl⟩ : ∃ wq, wq = w_ := ⟨_, rfl⟩
                obtain ⟨q42, ⟨qsp, qrv, qrs, qoa, q33w⟩, ⟨q34w, qV⟩, q35w, -⟩ := id hq
                have q33 : 33 < wq.1 := by omega
                have q34 : 34 < wq.1 := by omega
                refine ⟨gq.1, ?_⟩
                refine r_callv_1 (pc2 := 104) dX5_order_101 rfl rs_5_97 rfl (by decide) rfl (Nat.le_of_ble_eq_true rfl) (Nat.le_of_ble_eq_true rfl) (by assumption) (by assumption) (m_actC _ _ ke2 (v, k, sh, ln, pr, gd, co, c, preF 6 b s) (v, k, sh, ln, pr, gd, co, c, s) L n S hs len t hq ⟨hv.2, hp.2⟩ hke hL hn (GA k sh ln (preF 6 b s))) (fun r_ w_ h_ => ?_)
                rw [h_.1]
                refine ⟨h_.2.1.1, ?_⟩
                refine r_ret dX5_order_104 rfl ?_
                refine MA_s (x := GA k sh ln (preF 6 b s)) (V2 := (v, k, sh, ln, pr, gd, co, c, preF 6 b s)) ?_ ⟨rfl, agO.trans ?_ h_.2.1, h_.2.2⟩
                · show (if (∀ j : Nat, j < k.toNat → s j = b j) then (-105, none) else (GA k sh ln (preF 6 b s), some (v, k, sh, ln, pr, gd, co, c, preF 6 b s))) = _
                  rw [if_neg hne]
                · exact ((gr0.trans gr).trans (agO.wst _ (by omega))).trans gq
              · refine r_aload_n (pc2 := 76) dX5_order_75 rfl rfl ?_
                refine r_getf (pc2 := 79) dX5_order_76 rfl fl_5_7 (by assumption) (by assumption) (by rfl) ?_
                refine r_bipush (pc2 := 81) dX5_order_79 rfl (by decide) ?_
                refine r_iload_n (pc2 := 82) dX5_order_81 rfl rfl ?_
                refine r_iadd (pc2 := 83) dX5_order_82 rfl ?_
                refine r_aload_n (pc2 := 84) dX5_order_83 rfl rfl ?_
                refine r_getf (pc2 := 87) dX5_order_84 rfl fl_5_25 (by assumption) (by assumption) (by rfl) ?_
                refine r_iload_n (pc2 := 88) dX5_order_87 rfl rfl ?_
                refine r_iald (pc2 := 89) dX5_order_88 rfl (by decide) (by assumption) (by assumption) (by omega) (by omega) (by omega) ?_
                refine r_iast (pc2 := 90) dX5_order_89 rfl (by assumption) (by assumption) (by omega) (by omega) (by omega) ?_
                rw [wst_wst, ord_st hk0.1.1]
                refine r_iinc_2 (pc2 := 93) dX5_order_90 rfl rfl ?_
                refine r_goto (tgt := 65) dX5_order_93 (by decide) ?_
                exact ih (k + 1) (by omega)
          have q := inner2 (p.toNat + 1) 0 (by omega)
          rw [rgF_0, wst_id y34w] at q
          exact q
        · refine r_bipush (pc2 := 58) dX5_order_56 rfl (by decide) ?_
          refine r_ret dX5_order_58 rfl ?_
          refine MA_n (x := -105) ?_ rfl gr0 ⟨g, ke, hr0⟩
          show (if (∀ j : Nat, j < p.toNat → s j = b j) then (-105, none) else (GA p sh ln (preF 6 b s), some (v, p, sh, ln, pr, gd, co, c, preF 6 b s))) = _
          rw [if_pos (fun j hj => hk2.1 (by omega) j (by omega))]
      · refine r_iload_n (pc2 := 19) dX5_order_18 rfl rfl ?_
        refine r_if_eq (pc2 := 22) (tgt := 44) dX5_order_19 rfl (by decide) (by omega) (fun h19 => ?_) (fun h19 => ?_)
        · have hnx : ((0 : Int) = 1 ↔ ∀ j : Nat, (j : Int) < k + 1 → s j = b j) := ⟨fun x => absurd x (by decide), fun x => absurd (hk2.2 (fun j hj => x j (by omega))) (by omega)⟩
          refine r_iconst (pc2 := 45) dX5_order_44 rfl ?_
          refine r_ist_1 (pc2 := 46) dX5_order_45 rfl rfl ?_
          refine r_iinc_2 (pc2 := 49) dX5_order_46 rfl rfl ?_
          refine r_goto (tgt := 8) dX5_order_49 (by decide) ?_
          exact ih (k + 1) _ (by omega) (by first | exact Or.inl rfl | exact Or.inr rfl) hnx
        · refine r_aload_n (pc2 := 23) dX5_order_22 rfl rfl ?_
          have hkb := hB0 k.toNat (by omega)
          have hkr := hb6 k.toNat (by omega)
          have hks : g (7 + k).toNat = s k.toNat := by rw [show (7 + k).toNat = 7 + k.toNat by omega]; exact xV2.2.1 _ (by omega)
          have hkr2 := hS k.toNat (by omega)
          refine r_getf (pc2 := 26) dX5_order_23 rfl fl_5_25 (by assumption) (by assumption) (by rfl) ?_
          refine r_iload_n (pc2 := 27) dX5_order_26 rfl rfl ?_
          refine r_iald (pc2 := 28) dX5_order_27 rfl (by decide) (by assumption) (by assumption) (by omega) (by omega) (by omega) ?_
          rw [hkb]
          refine r_aload_n (pc2 := 29) dX5_order_28 rfl rfl ?_
          refine r_getf (pc2 := 32) dX5_order_29 rfl fl_5_7 (by assumption) (by assumption) (by rfl) ?_
          refine r_bipush (pc2 := 34) dX5_order_32 rfl (by decide) ?_
          refine r_iload_n (pc2 := 35) dX5_order_34 rfl rfl ?_
          refine r_iadd (pc2 := 36) dX5_order_35 rfl ?_
          refine r_iald (pc2 := 37) dX5_order_36 rfl (by decide) (by assumption) (by assumption) (by omega) (by omega) (by omega) ?_
          rw [hks]
          refine r_icmp_ne (pc2 := 40) (tgt := 44) dX5_order_37 rfl (by decide) (by omega) (by omega) (fun h37 => ?_) (fun h37 => ?_)
          · have hnx : ((0 : Int) = 1 ↔ ∀ j : Nat, (j : Int) < k + 1 → s j = b j) := ⟨fun x => absurd x (by decide), fun x => absurd (x k.toNat (by omega)).symm (by omega)⟩
            refine r_iconst (pc2 := 45) dX5_order_44 rfl ?_
            refine r_ist_1 (pc2 := 46) dX5_order_45 rfl rfl ?_
            refine r_iinc_2 (pc2 := 49) dX5_order_46 rfl rfl ?_
            refine r_goto (tgt := 8) dX5_order_49 (by decide) ?_
            exact ih (k + 1) _ (by omega) (by first | exact Or.inl rfl | exact Or.inr rfl) hnx
          · have hnx : ((1 : Int) = 1 ↔ ∀ j : Nat, (j : Int) < k + 1 → s j = b j) := ⟨fun _ j hj => by
              by_cases q : (j : Int) < k
              · exact hk2.1 (by omega) j q
              · rw [show j = k.toNat by omega]
                omega, fun _ => rfl⟩
            refine r_iconst (pc2 := 41) dX5_order_40 rfl ?_
            refine r_goto (tgt := 45) dX5_order_41 (by decide) ?_
            refine r_ist_1 (pc2 := 46) dX5_order_45 rfl rfl ?_
            refine r_iinc_2 (pc2 := 49) dX5_order_46 rfl rfl ?_
            refine r_goto (tgt := 8) dX5_order_49 (by decide) ?_
            exact ih (k + 1) _ (by omega) (by first | exact Or.inl rfl | exact Or.inr rfl) hnx
  exact inner1 (p.toNat + 1) 0 1 (by omega) (Or.inr rfl) ⟨fun _ j hj => absurd hj (by omega), fun _ => rfl⟩

set_option maxHeartbeats 4000000 in
theorem m_press (w : av_W) (v p sh ln pr gd co : Int) (c s : Nat → Int) (L : Nat → CV) (n : Int) (S : CV) (hs len : Int) (t : Nat → Int) (g ke : Nat → Int) (h : REFG w g ke (v, p, sh, ln, pr, gd, co, c, s) L n S hs len t) (hW : KW (v, p, sh, ln, pr, gd, co, c, s)) (hn : 0 ≤ n ∧ n ≤ 4) (hL : ∀ i : Nat, (i : Int) < n → (L i).1 ≤ 4 ∧ (L i).2.1 ≤ 6) (a : Int) (ha : RG a) : cl MX5_press [.ref 33, .int (iN a)] w (fun r' w' => MA w w' r' (o_press (v, p, sh, ln, pr, gd, co, c, s) a) (v, p, sh, ln, pr, gd, co, c, s) L n S hs len t) := by
  obtain ⟨x42, ⟨xsp, xrv, xrs, xoa, x33w⟩, ⟨x34w, xV⟩, x35w, -⟩ := id h
  have x33 : 33 < w.1 := by omega
  have x34 : 34 < w.1 := by omega
  have hV : KV (v, p, sh, ln, pr, gd, co, c, s) := hW.1
  have hSV : ∀ j : Nat, (j : Int) < p → s j < v := hW.2
  obtain ⟨hK, hS, hc, hpr⟩ := id hV
  have hK : KR v p sh ln := hK
  have hS : SR s := hS
  have hc : ∀ j : Nat, j < 48 → 0 ≤ c j ∧ c j ≤ 9 := hc
  have hpr : 0 ≤ pr ∧ pr ≤ 99999 := hpr
  obtain ⟨hv, hp, hsh, hln⟩ := id hK
  have xV2 : gV (v, p, sh, ln, pr, gd, co, c, s) g := xV
  obtain ⟨⟨e0, e1, e2, e3, e4, e5, e6⟩, -⟩ := id xV2
  have hGR : GR g := ⟨by omega, by omega, by omega, by omega⟩
  have hGS : GS g := gV_GS xV2 hS
  have haR : -2147483648 ≤ a ∧ a < 2147483648 := ha
  show rn MX5_press 0 [some (.ref 33), some (.int (iN a)), none] [] w _
  refine r_iload_n (pc2 := 1) dX5_press_0 rfl rfl ?_
  refine r_i2l (pc2 := 2) dX5_press_1 rfl (by omega) ?_
  refine r_lconst (z := 1) (pc2 := 3) dX5_press_2 rfl (by decide) ?_
  refine r_ldl (pc2 := 6) dX5_press_3 rfl kl_5_124 ?_
  refine r_calls_3 (pc2 := 9) dX5_press_6 rfl rs_5_41 rfl (by decide) rfl (Nat.le_of_ble_eq_true rfl) (Nat.le_of_ble_eq_true rfl) (m_in w a 1 999 ⟨by omega, by omega⟩ ⟨by omega, by omega⟩ ⟨by omega, by omega⟩) (fun r_ w_ h_ => ?_)
  rw [h_.1, h_.2]
  clear h_ w_ r_
  refine ⟨rfl, ?_⟩
  refine r_ifb_ne (pc2 := 12) (tgt := 15) dX5_press_9 rfl (by decide)  (fun h9 => ?_) (fun h9 => ?_)
  · refine r_aload_n (pc2 := 16) dX5_press_15 rfl rfl ?_
    refine r_getf (pc2 := 19) dX5_press_16 rfl fl_5_7 (by assumption) (by assumption) (by rfl) ?_
    refine r_iconst (pc2 := 20) dX5_press_19 rfl ?_
    refine r_ialk (k := 4) (pc2 := 21) dX5_press_20 rfl (by decide) (by assumption) (by assumption) (by omega) (by omega) (by omega) (by decide) ?_
    rw [show g 4 = pr from e4]
    refine r_iload_n (pc2 := 22) dX5_press_21 rfl rfl ?_
    refine r_iadd (pc2 := 23) dX5_press_22 rfl ?_
    refine r_ldc (pc2 := 25) dX5_press_23 rfl ki_5_126 ?_
    refine r_icmp_le (pc2 := 28) (tgt := 31) dX5_press_25 rfl (by decide) (by omega) (by omega) (fun h25 => ?_) (fun h25 => ?_)
    · refine r_aload_n (pc2 := 32) dX5_press_31 rfl rfl ?_
      refine r_callv_0 (pc2 := 35) dX5_press_32 rfl rs_5_94 rfl (by decide) rfl (Nat.le_of_ble_eq_true rfl) (Nat.le_of_ble_eq_true rfl) (by assumption) (by assumption) (m_remC _ _ _ (v, p, sh, ln, pr, gd, co, c, s) _ _ _ _ _ _ h ⟨hv.2, hp.2⟩) (fun r_ w_ h_ => ?_)
      obtain ⟨e_, gr, ke2, hr, hke⟩ := h_
      rw [e_]
      clear e_
      obtain ⟨wr, rfl⟩ : ∃ wr, wr = w_ := ⟨_, rfl⟩
      obtain ⟨y42, ⟨ysp, yrv, yrs, yoa, y33w⟩, ⟨y34w, yV⟩, y35w, -⟩ := id hr
      have y33 : 33 < wr.1 := by omega
      have y34 : 34 < wr.1 := by omega
      refine ⟨gr.1, ?_⟩
      refine r_aload_n (pc2 := 36) dX5_press_35 rfl rfl ?_
      refine r_iconst (pc2 := 37) dX5_press_36 rfl ?_
      refine r_callv_1 (pc2 := 40) dX5_press_37 rfl rs_5_127 rfl (by decide) rfl (Nat.le_of_ble_eq_true rfl) (Nat.le_of_ble_eq_true rfl) (by assumption) (by assumption) (m_wholeC wr v p sh ln pr gd co c s L n S hs len t g ke2 hr hW 1 (Or.inr rfl)) (fun r_ w_ h_ => ?_)
      obtain ⟨e_, gq, hq⟩ := h_
      rw [if_pos rfl] at e_
      rw [e_]
      clear e_
      have hwr := wvF_rg (p := p) (s := s) (f := ssF p sh ln) (g := cnA p 19) (show 0 ≤ v by omega)
      obtain ⟨wq, rfl⟩ : ∃ wq, wq = w_ := ⟨_, rfl⟩
      obtain ⟨q42, ⟨qsp, qrv, qrs, qoa, q33w⟩, ⟨q34w, qV⟩, q35w, -⟩ := id hq
      have q33 : 33 < wq.1 := by omega
      have q34 : 34 < wq.1 := by omega
      refine ⟨gq.1, ?_⟩
      have tail : ∀ x : Int, ((x = a ∧ (wvF p v s (ssF p sh ln) (cnA p 19)) = v) ∨ (x = 0 ∧ (wvF p v s (ssF p sh ln) (cnA p 19)) ≠ v)) → rn MX5_press 54 [some (.ref 33), some (.int (iN a)), none] [.int (iN x)] wq (fun r' w' => MA w w' r' (o_press (v, p, sh, ln, pr, gd, co, c, s) a) (v, p, sh, ln, pr, gd, co, c, s) L n S hs len t) := by
        intro x hx
        refine r_ist_2 (pc2 := 55) dX5_press_54 rfl rfl ?_
        refine r_aload_n (pc2 := 56) dX5_press_55 rfl rfl ?_
        refine r_getf (pc2 := 59) dX5_press_56 rfl fl_5_7 (by assumption) (by assumption) (by rfl) ?_
        refine r_iconst (pc2 := 60) dX5_press_59 rfl ?_
        refine r_dup2 (pc2 := 61) dX5_press_60 rfl rfl rfl ?_
        refine r_iald (pc2 := 62) dX5_press_61 rfl (by decide) (by assumption) (by assumption) (by omega) (by omega) (by omega) ?_
        rw [show g (4 : Int).toNat = pr from e4]
        refine r_iload_n (pc2 := 63) dX5_press_62 rfl rfl ?_
        refine r_iadd (pc2 := 64) dX5_press_63 rfl ?_
        refine r_iast (pc2 := 65) dX5_press_64 rfl (by assumption) (by assumption) (by omega) (by omega) (by omega) ?_
        have z33 : 33 < (wst wq 34 (arO 61 (updZ g (4 : Int).toNat (pr + a)))).1 := q33
        have z33w := (wst_ne (w := wq) (a := 34) (b := 33) (e := arO 61 (updZ g (4 : Int).toNat (pr + a))) (by decide)).trans q33w
        have z34 : 34 < (wst wq 34 (arO 61 (updZ g (4 : Int).toNat (pr + a)))).1 := q34
        have z34w : (wst wq 34 (arO 61 (updZ g (4 : Int).toNat (pr + a)))).2.2 34 = arO 61 (updZ g (4 : Int).toNat (pr + a)) := wst_self
        refine r_aload_n (pc2 := 66) dX5_press_65 rfl rfl ?_
        refine r_getf (pc2 := 69) dX5_press_66 rfl fl_5_7 (by assumption) (by assumption) (by rfl) ?_
        refine r_iconst (pc2 := 70) dX5_press_69 rfl ?_
        refine r_dup2 (pc2 := 71) dX5_press_70 rfl rfl rfl ?_
        refine r_iald (pc2 := 72) dX5_press_71 rfl (by decide) (by assumption) (by assumption) (by omega) (by omega) (by omega) ?_
        rw [show (updZ g (4 : Int).toNat (pr + a)) (5 : Int).toNat = gd from (if_neg (by decide)).trans e5]
        refine r_iload_n (pc2 := 73) dX5_press_72 rfl rfl ?_
        refine r_iadd (pc2 := 74) dX5_press_73 rfl ?_
        refine r_iast (pc2 := 75) dX5_press_74 rfl (by assumption) (by assumption) (by omega) (by omega) (by omega) ?_
        rw [wst_wst]
        have z33 : 33 < (wst wq 34 (arO 61 (updZ (updZ g (4 : Int).toNat (pr + a)) (5 : Int).toNat (gd + x)))).1 := q33
        have z33w := (wst_ne (w := wq) (a := 34) (b := 33) (e := arO 61 (updZ (updZ g (4 : Int).toNat (pr + a)) (5 : Int).toNat (gd + x))) (by decide)).trans q33w
        have z34 : 34 < (wst wq 34 (arO 61 (updZ (updZ g (4 : Int).toNat (pr + a)) (5 : Int).toNat (gd + x)))).1 := q34
        have z34w : (wst wq 34 (arO 61 (updZ (updZ g (4 : Int).toNat (pr + a)) (5 : Int).toNat (gd + x)))).2.2 34 = arO 61 (updZ (updZ g (4 : Int).toNat (pr + a)) (5 : Int).toNat (gd + x)) := wst_self
        refine r_aload_n (pc2 := 76) dX5_press_75 rfl rfl ?_
        refine r_getf (pc2 := 79) dX5_press_76 rfl fl_5_7 (by assumption) (by assumption) (by rfl) ?_
        refine r_bipush (pc2 := 81) dX5_press_79 rfl (by decide) ?_
        refine r_dup2 (pc2 := 82) dX5_press_81 rfl rfl rfl ?_
        refine r_iald (pc2 := 83) dX5_press_82 rfl (by decide) (by assumption) (by assumption) (by omega) (by omega) (by omega) ?_
        rw [show (updZ (updZ g (4 : Int).toNat (pr + a)) (5 : Int).toNat (gd + x)) (6 : Int).toNat = co from (if_neg (by decide)).trans ((if_neg (by decide)).trans e6)]
        refine r_iload_n (pc2 := 84) dX5_press_83 rfl rfl ?_
        refine r_iconst (pc2 := 85) dX5_press_84 rfl ?_
        refine r_aload_n (pc2 := 86) dX5_press_85 rfl rfl ?_
        refine r_getf (pc2 := 89) dX5_press_86 rfl fl_5_7 (by assumption) (by assumption) (by rfl) ?_
        refine r_iconst (pc2 := 90) dX5_press_89 rfl ?_
        refine r_ialk (k := 1) (pc2 := 91) dX5_press_90 rfl (by decide) (by assumption) (by assumption) (by omega) (by omega) (by omega) (by decide) ?_
        rw [show (updZ (updZ g (4 : Int).toNat (pr + a)) (5 : Int).toNat (gd + x)) 1 = p from (if_neg (by decide)).trans ((if_neg (by decide)).trans e1)]
        refine r_iadd (pc2 := 92) dX5_press_91 rfl ?_
        refine r_imul (pc2 := 93) dX5_press_92 rfl ?_
        refine r_iadd (pc2 := 94) dX5_press_93 rfl ?_
        refine r_iast (pc2 := 95) dX5_press_94 rfl (by assumption) (by assumption) (by omega) (by omega) (by omega) ?_
        rw [wst_wst]
        refine r_aload_n (pc2 := 96) dX5_press_95 rfl rfl ?_
        refine r_iload_n (pc2 := 97) dX5_press_96 rfl rfl ?_
        refine r_callv_1 (pc2 := 100) dX5_press_97 rfl rs_5_97 rfl (by decide) rfl (Nat.le_of_ble_eq_true rfl) (Nat.le_of_ble_eq_true rfl) (by assumption) (by assumption) (m_actC _ _ ke2 (v, p, sh, ln, pr + a, gd + x, co + a * (3 + p), c, s) (v, p, sh, ln, pr, gd, co, c, s) L n S hs len t (REFG_34 hq (gV_num (g2 := (updZ (updZ (updZ g (4 : Int).toNat (pr + a)) (5 : Int).toNat (gd + x)) (6 : Int).toNat (co + a * (3 + p)))) xV2 rfl rfl (fun j hj => (if_neg (show ¬ j = (6 : Int).toNat by omega)).trans ((if_neg (show ¬ j = (5 : Int).toNat by omega)).trans (if_neg (show ¬ j = (4 : Int).toNat by omega)))) ⟨((if_neg (by decide)).trans ((if_neg (by decide)).trans ((if_neg (by decide)).trans e0))), ((if_neg (by decide)).trans ((if_neg (by decide)).trans ((if_neg (by decide)).trans e1))), ((if_neg (by decide)).trans ((if_neg (by decide)).trans ((if_neg (by decide)).trans e2))), ((if_neg (by decide)).trans ((if_neg (by decide)).trans ((if_neg (by decide)).trans e3))), (if_neg (by decide)).trans ((if_neg (by decide)).trans rfl), (if_neg (by decide)).trans rfl, rfl⟩)) ⟨hv.2, hp.2⟩ hke hL hn x) (fun r_ w_ h_ => ?_)
        rw [h_.1]
        refine ⟨h_.2.1.1, ?_⟩
        refine r_ret dX5_press_100 rfl ?_
        refine MA_s (x := x) (V2 := (v, p, sh, ln, pr + a, gd + x, co + a * (3 + p), c, s)) ?_ ⟨rfl, agO.trans ?_ h_.2.1, h_.2.2⟩
        · show (if ¬ (1 ≤ a ∧ a ≤ 999) then (-102, none) else if 99999 < pr + a then (-103, none) else if (wvF p v s (ssF p sh ln) (cnA p 19)) = v then (a, some (v, p, sh, ln, pr + a, gd + a, co + a * (3 + p), c, s)) else (0, some (v, p, sh, ln, pr + a, gd + 0, co + a * (3 + p), c, s))) = _
          rw [if_neg (by omega), if_neg (by omega)]
          rcases hx with hx | hx
          · rw [if_pos hx.2, hx.1]
          · rw [if_neg hx.2, hx.1]
        · exact (gr.trans gq).trans (agO.wst _ (by omega))
      refine r_aload_n (pc2 := 41) dX5_press_40 rfl rfl ?_
      refine r_getf (pc2 := 44) dX5_press_41 rfl fl_5_7 (by assumption) (by assumption) (by rfl) ?_
      refine r_iconst (pc2 := 45) dX5_press_44 rfl ?_
      refine r_ialk (k := 0) (pc2 := 46) dX5_press_45 rfl (by decide) (by assumption) (by assumption) (by omega) (by omega) (by omega) (by decide) ?_
      rw [show g 0 = v from e0]
      refine r_icmp_ne (pc2 := 49) (tgt := 53) dX5_press_46 rfl (by decide) (by omega) (by omega) (fun h46 => ?_) (fun h46 => ?_)
      · refine r_iconst (pc2 := 54) dX5_press_53 rfl ?_
        first
          | exact tail a (Or.inl ⟨rfl, by omega⟩)
          | exact tail 0 (Or.inr ⟨rfl, by omega⟩)
      · refine r_iload_n (pc2 := 50) dX5_press_49 rfl rfl ?_
        refine r_goto (tgt := 54) dX5_press_50 (by decide) ?_
        first
          | exact tail a (Or.inl ⟨rfl, by omega⟩)
          | exact tail 0 (Or.inr ⟨rfl, by omega⟩)
    · refine r_bipush (pc2 := 30) dX5_press_28 rfl (by decide) ?_
      refine r_ret dX5_press_30 rfl ?_
      refine MA_n (x := -103) ?_ rfl agO.rf ⟨g, ke, h⟩
      show (if ¬ (1 ≤ a ∧ a ≤ 999) then (-102, none) else if 99999 < pr + a then (-103, none) else if (wvF p v s (ssF p sh ln) (cnA p 19)) = v then (a, some (v, p, sh, ln, pr + a, gd + a, co + a * (3 + p), c, s)) else (0, some (v, p, sh, ln, pr + a, gd + 0, co + a * (3 + p), c, s))) = _
      rw [if_neg (by omega), if_pos (by omega)]
  · refine r_bipush (pc2 := 14) dX5_press_12 rfl (by decide) ?_
    refine r_ret dX5_press_14 rfl ?_
    refine MA_n (x := -102) ?_ rfl agO.rf ⟨g, ke, h⟩
    show (if ¬ (1 ≤ a ∧ a ≤ 999) then (-102, none) else if 99999 < pr + a then (-103, none) else if (wvF p v s (ssF p sh ln) (cnA p 19)) = v then (a, some (v, p, sh, ln, pr + a, gd + a, co + a * (3 + p), c, s)) else (0, some (v, p, sh, ln, pr + a, gd + 0, co + a * (3 + p), c, s))) = _
    rw [if_pos (by omega)]
