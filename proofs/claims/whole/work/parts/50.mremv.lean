/-! the reference: removeView and swap -/
theorem rm_step {lo k x : Int} {F g : Nat → Int} (hl : 0 ≤ lo) (hk : lo ≤ k) (e : x = F k.toNat) : updZ (rgF lo (k - lo) F g) k.toNat x = rgF lo (k + 1 - lo) F g := by
  subst e
  have h := rgF_step (lo := lo) (k := k - lo) hl (by omega) F g
  rw [show lo + (k - lo) = k by omega, show k - lo + 1 = k + 1 - lo by omega] at h
  exact h
def exG (a b k : Int) (g : Nat → Int) : Nat → Int := fun j => if 13 ≤ j then exF a b k (fun i => g (13 + i)) (j - 13) else g j
theorem exG_0 (a b : Int) (g : Nat → Int) : exG a b 0 g = g := by
  funext j
  unfold exG
  rw [exF_0]
  split
  · show g (13 + (j - 13)) = g j
    congr 1
    omega
  · rfl
theorem exG_at {x y k : Int} {g : Nat → Int} (hx : 0 ≤ x) (hy : 0 ≤ y) (hxy : x ≠ y) (hk : 0 ≤ k ∧ k < 12) : exG x y k g (13 + 12 * x + k).toNat = g (13 + 12 * x + k).toNat ∧ exG x y k g (13 + 12 * y + k).toNat = g (13 + 12 * y + k).toNat := by
  have h := exF_at (c := fun i => g (13 + i)) hx hy hxy hk
  unfold exG
  constructor
  · rw [if_pos (by omega), show (13 + 12 * x + k).toNat - 13 = (x * 12 + k).toNat by omega, h.1]
    show g (13 + (x * 12 + k).toNat) = _
    congr 1
    omega
  · rw [if_pos (by omega), show (13 + 12 * y + k).toNat - 13 = (y * 12 + k).toNat by omega, h.2]
    show g (13 + (y * 12 + k).toNat) = _
    congr 1
    omega
theorem exG_step {x y k : Int} (g : Nat → Int) (hx : 0 ≤ x) (hy : 0 ≤ y) (hxy : x ≠ y) (hk : 0 ≤ k ∧ k < 12) : updZ (updZ (exG x y k g) (13 + 12 * x + k).toNat (g (13 + 12 * y + k).toNat)) (13 + 12 * y + k).toNat (g (13 + 12 * x + k).toNat) = exG x y (k + 1) g := by
  funext j
  have h := congrFun (exF_step (fun i => g (13 + i)) hx hy hxy hk) (j - 13)
  have e1 : g (13 + (y * 12 + k).toNat) = g (13 + 12 * y + k).toNat := by congr 1; omega
  have e2 : g (13 + (x * 12 + k).toNat) = g (13 + 12 * x + k).toNat := by congr 1; omega
  unfold updZ at h ⊢
  unfold exG
  rw [e1, e2] at h
  by_cases hj : 13 ≤ j
  · rw [if_pos hj, if_pos hj]
    refine Eq.trans ?_ h
    by_cases h1 : j = (13 + 12 * y + k).toNat
    · have h1' : j - 13 = (y * 12 + k).toNat := by omega
      rw [if_pos h1, if_pos h1']
    · have h1' : ¬ j - 13 = (y * 12 + k).toNat := by omega
      rw [if_neg h1, if_neg h1']
      by_cases h2 : j = (13 + 12 * x + k).toNat
      · have h2' : j - 13 = (x * 12 + k).toNat := by omega
        rw [if_pos h2, if_pos h2']
      · have h2' : ¬ j - 13 = (x * 12 + k).toNat := by omega
        rw [if_neg h2, if_neg h2']
  · have h1 : ¬ j = (13 + 12 * y + k).toNat := by omega
    have h2 : ¬ j = (13 + 12 * x + k).toNat := by omega
    rw [if_neg hj, if_neg h1, if_neg h2, if_neg hj]
theorem gV_ex {v p sh ln pr gd co : Int} {c s g : Nat → Int} (q : gV (v, p, sh, ln, pr, gd, co, c, s) g) (hp6 : p ≤ 6) {a b : Int} (ha : 0 ≤ a ∧ a < v) (hb : 0 ≤ b ∧ b < v) : gV (v, p, sh, ln, pr, gd, co, exF a b 12 c, s) (exG a b 12 g) := by
  obtain ⟨⟨a0, a1, a2, a3, a4, a5, a6⟩, b1, b2, b3, b4⟩ := q
  have ne : ∀ j : Nat, j < 13 → exG a b 12 g j = g j := fun j hj => if_neg (by omega)
  refine ⟨⟨(ne 0 (by omega)).trans a0, (ne 1 (by omega)).trans a1, (ne 2 (by omega)).trans a2, (ne 3 (by omega)).trans a3, (ne 4 (by omega)).trans a4, (ne 5 (by omega)).trans a5, (ne 6 (by omega)).trans a6⟩, fun j hj => (ne (7 + j) (by omega)).trans (b1 j hj), fun j hj hj2 => (ne (7 + j) (by omega)).trans (b2 j hj hj2), fun j hj => ?_, fun j hj hj2 => ?_⟩
  · unfold exG
    rw [if_pos (by omega), show 13 + j - 13 = j by omega]
    unfold exF
    dsimp only
    split
    · exact b3 _ (by omega)
    · split
      · exact b3 _ (by omega)
      · exact b3 _ (by omega)
  · unfold exG
    rw [if_pos (by omega), show 13 + j - 13 = j by omega]
    unfold exF
    dsimp only
    rw [if_neg (by omega), if_neg (by omega)]
    exact b4 _ (by omega) (by omega)

set_option maxHeartbeats 4000000 in
theorem m_removeView (w : av_W) (v p sh ln pr gd co : Int) (c s : Nat → Int) (L : Nat → CV) (n : Int) (S : CV) (hs len : Int) (t : Nat → Int) (g ke : Nat → Int) (h : REFG w g ke (v, p, sh, ln, pr, gd, co, c, s) L n S hs len t) (hV : KV (v, p, sh, ln, pr, gd, co, c, s)) (hn : 0 ≤ n ∧ n ≤ 4) (hL : ∀ i : Nat, (i : Int) < n → (L i).1 ≤ 4 ∧ (L i).2.1 ≤ 6) (a : Int) (ha : RG a) : cl MX5_removeView [.ref 33, .int (iN a)] w (fun r' w' => MA w w' r' (o_removeView (v, p, sh, ln, pr, gd, co, c, s) a) (v, p, sh, ln, pr, gd, co, c, s) L n S hs len t) := by
  obtain ⟨x42, ⟨xsp, xrv, xrs, xoa, x33w⟩, ⟨x34w, xV⟩, x35w, -⟩ := id h
  have x33 : 33 < w.1 := by omega
  have x34 : 34 < w.1 := by omega
  obtain ⟨hK, hS, hc, hpr⟩ := id hV
  have hK : KR v p sh ln := hK
  have hS : SR s := hS
  have hc : ∀ j : Nat, j < 48 → 0 ≤ c j ∧ c j ≤ 9 := hc
  have hpr : 0 ≤ pr ∧ pr ≤ 99999 := hpr
  obtain ⟨hv, hp, hsh, hln⟩ := id hK
  have xV2 : gV (v, p, sh, ln, pr, gd, co, c, s) g := xV
  obtain ⟨⟨e0, e1, e2, e3, e4, e5, e6⟩, -⟩ := id xV2
  have hGR : GR g := ⟨by omega, by omega, by omega, by omega⟩
  have haR : -2147483648 ≤ a ∧ a < 2147483648 := ha
  show rn MX5_removeView 0 [some (.ref 33), some (.int (iN a)), none] [] w _
  refine r_aload_n (pc2 := 1) dX5_removeView_0 rfl rfl ?_
  refine r_iload_n (pc2 := 2) dX5_removeView_1 rfl rfl ?_
  refine r_callv_1 (pc2 := 5) dX5_removeView_2 rfl rs_5_84 rfl (by decide) rfl (Nat.le_of_ble_eq_true rfl) (Nat.le_of_ble_eq_true rfl) (by assumption) (by assumption) (m_isView w x42 _ _ _ _ _ _ _ x33w g x34w hGR a ha) (fun r_ w_ h_ => ?_)
  rw [h_.1, h_.2]
  clear h_ w_ r_
  refine ⟨rfl, ?_⟩
  refine r_ifb_ne (pc2 := 8) (tgt := 11) dX5_removeView_5 rfl (by decide)  (fun h5 => ?_) (fun h5 => ?_)
  · refine r_aload_n (pc2 := 12) dX5_removeView_11 rfl rfl ?_
    refine r_getf (pc2 := 15) dX5_removeView_12 rfl fl_5_7 (by assumption) (by assumption) (by rfl) ?_
    refine r_iconst (pc2 := 16) dX5_removeView_15 rfl ?_
    refine r_ialk (k := 0) (pc2 := 17) dX5_removeView_16 rfl (by decide) (by assumption) (by assumption) (by omega) (by omega) (by omega) (by decide) ?_
    rw [show g 0 = v from e0]
    refine r_iconst (pc2 := 18) dX5_removeView_17 rfl ?_
    refine r_icmp_ne (pc2 := 21) (tgt := 24) dX5_removeView_18 rfl (by decide) (by omega) (by omega) (fun h18 => ?_) (fun h18 => ?_)
    · refine r_aload_n (pc2 := 25) dX5_removeView_24 rfl rfl ?_
      refine r_callv_0 (pc2 := 28) dX5_removeView_25 rfl rs_5_94 rfl (by decide) rfl (Nat.le_of_ble_eq_true rfl) (Nat.le_of_ble_eq_true rfl) (by assumption) (by assumption) (m_remC _ _ _ (v, p, sh, ln, pr, gd, co, c, s) _ _ _ _ _ _ h ⟨hv.2, hp.2⟩) (fun r_ w_ h_ => ?_)
      obtain ⟨e_, gr, ke2, hr, hke⟩ := h_
      rw [e_]
      clear e_
      obtain ⟨wr, rfl⟩ : ∃ wr, wr = w_ := ⟨_, rfl⟩
      obtain ⟨y42, ⟨ysp, yrv, yrs, yoa, y33w⟩, ⟨y34w, yV⟩, y35w, -⟩ := id hr
      have y33 : 33 < wr.1 := by omega
      have y34 : 34 < wr.1 := by omega
      refine ⟨gr.1, ?_⟩
      refine r_aload_n (pc2 := 29) dX5_removeView_28 rfl rfl ?_
      refine r_getf (pc2 := 32) dX5_removeView_29 rfl fl_5_7 (by assumption) (by assumption) (by rfl) ?_
      refine r_iconst (pc2 := 33) dX5_removeView_32 rfl ?_
      refine r_dup2 (pc2 := 34) dX5_removeView_33 rfl rfl rfl ?_
      refine r_iald (pc2 := 35) dX5_removeView_34 rfl (by decide) (by assumption) (by assumption) (by omega) (by omega) (by omega) ?_
      rw [show g (0 : Int).toNat = v from e0]
      refine r_iconst (pc2 := 36) dX5_removeView_35 rfl ?_
      refine r_isub (pc2 := 37) dX5_removeView_36 rfl ?_
      refine r_iast (pc2 := 38) dX5_removeView_37 rfl (by assumption) (by assumption) (by omega) (by omega) (by omega) ?_
      have z33 : 33 < (wst wr 34 (arO 61 (updZ g (0 : Int).toNat (v - 1)))).1 := y33
      have z33w := (wst_ne (w := wr) (a := 34) (b := 33) (e := arO 61 (updZ g (0 : Int).toNat (v - 1))) (by decide)).trans y33w
      have z34 : 34 < (wst wr 34 (arO 61 (updZ g (0 : Int).toNat (v - 1)))).1 := y34
      have z34w : (wst wr 34 (arO 61 (updZ g (0 : Int).toNat (v - 1)))).2.2 34 = arO 61 (updZ g (0 : Int).toNat (v - 1)) := wst_self
      refine r_bipush (pc2 := 40) dX5_removeView_38 rfl (by decide) ?_
      refine r_bipush (pc2 := 42) dX5_removeView_40 rfl (by decide) ?_
      refine r_iload_n (pc2 := 43) dX5_removeView_42 rfl rfl ?_
      refine r_imul (pc2 := 44) dX5_removeView_43 rfl ?_
      refine r_iadd (pc2 := 45) dX5_removeView_44 rfl ?_
      refine r_ist_2 (pc2 := 46) dX5_removeView_45 rfl rfl ?_
      have inner : ∀ (m : Nat) (k : Int), ((13 + 12 * a ≤ k ∧ k ≤ 61) ∧ 62 ≤ k + m) → rn MX5_removeView 46 [some (.ref 33), some (.int (iN a)), some (.int (iN k))] [] (wst wr 34 (arO 61 (rgF (13 + 12 * a) (k - (13 + 12 * a)) (fun j : Nat => if (j : Int) + 12 < 61 then (updZ g (0 : Int).toNat (v - 1)) (j + 12) else 0) (updZ g (0 : Int).toNat (v - 1))))) (fun r' w' => MA w w' r' (o_removeView (v, p, sh, ln, pr, gd, co, c, s) a) (v, p, sh, ln, pr, gd, co, c, s) L n S hs len t) := by
        intro m
        induction m with
        | zero =>
          intro k hk0
          exfalso
          omega
        | succ m ih =>
          intro k hk0
          have z33 : 33 < (wst wr 34 (arO 61 (rgF (13 + 12 * a) (k - (13 + 12 * a)) (fun j : Nat => if (j : Int) + 12 < 61 then (updZ g (0 : Int).toNat (v - 1)) (j + 12) else 0) (updZ g (0 : Int).toNat (v - 1))))).1 := y33
          have z33w := (wst_ne (w := wr) (a := 34) (b := 33) (e := arO 61 (rgF (13 + 12 * a) (k - (13 + 12 * a)) (fun j : Nat => if (j : Int) + 12 < 61 then (updZ g (0 : Int).toNat (v - 1)) (j + 12) else 0) (updZ g (0 : Int).toNat (v - 1)))) (by decide)).trans y33w
          have z34 : 34 < (wst wr 34 (arO 61 (rgF (13 + 12 * a) (k - (13 + 12 * a)) (fun j : Nat => if (j : Int) + 12 < 61 then (updZ g (0 : Int).toNat (v - 1)) (j + 12) else 0) (updZ g (0 : Int).toNat (v - 1))))).1 := y34
          have z34w : (wst wr 34 (arO 61 (rgF (13 + 12 * a) (k - (13 + 12 * a)) (fun j : Nat => if (j : Int) + 12 < 61 then (updZ g (0 : Int).toNat (v - 1)) (j + 12) else 0) (updZ g (0 : Int).toNat (v - 1))))).2.2 34 = arO 61 (rgF (13 + 12 * a) (k - (13 + 12 * a)) (fun j : Nat => if (j : Int) + 12 < 61 then (updZ g (0 : Int).toNat (v - 1)) (j + 12) else 0) (updZ g (0 : Int).toNat (v - 1))) := wst_self
          refine r_iload_n (pc2 := 47) dX5_removeView_46 rfl rfl ?_
          refine r_bipush (pc2 := 49) dX5_removeView_47 rfl (by decide) ?_
          refine r_icmp_ge (pc2 := 52) (tgt := 86) dX5_removeView_49 rfl (by decide) (by omega) (by omega) (fun h49 => ?_) (fun h49 => ?_)
          · have h6 : k = 61 := by omega
            subst h6
            have en0 : (rgF (13 + 12 * a) (61 - (13 + 12 * a)) (fun j : Nat => if (j : Int) + 12 < 61 then (updZ g (0 : Int).toNat (v - 1)) (j + 12) else 0) (updZ g (0 : Int).toNat (v - 1))) 0 = v - 1 := (rgF_out (by omega)).trans rfl
            have en1 : (rgF (13 + 12 * a) (61 - (13 + 12 * a)) (fun j : Nat => if (j : Int) + 12 < 61 then (updZ g (0 : Int).toNat (v - 1)) (j + 12) else 0) (updZ g (0 : Int).toNat (v - 1))) 1 = p := (rgF_out (by omega)).trans ((if_neg (by decide)).trans e1)
            have en2 : (rgF (13 + 12 * a) (61 - (13 + 12 * a)) (fun j : Nat => if (j : Int) + 12 < 61 then (updZ g (0 : Int).toNat (v - 1)) (j + 12) else 0) (updZ g (0 : Int).toNat (v - 1))) 2 = sh := (rgF_out (by omega)).trans ((if_neg (by decide)).trans e2)
            have en3 : (rgF (13 + 12 * a) (61 - (13 + 12 * a)) (fun j : Nat => if (j : Int) + 12 < 61 then (updZ g (0 : Int).toNat (v - 1)) (j + 12) else 0) (updZ g (0 : Int).toNat (v - 1))) 3 = ln := (rgF_out (by omega)).trans ((if_neg (by decide)).trans e3)
            have en4 : (rgF (13 + 12 * a) (61 - (13 + 12 * a)) (fun j : Nat => if (j : Int) + 12 < 61 then (updZ g (0 : Int).toNat (v - 1)) (j + 12) else 0) (updZ g (0 : Int).toNat (v - 1))) 4 = pr := (rgF_out (by omega)).trans ((if_neg (by decide)).trans e4)
            have en5 : (rgF (13 + 12 * a) (61 - (13 + 12 * a)) (fun j : Nat => if (j : Int) + 12 < 61 then (updZ g (0 : Int).toNat (v - 1)) (j + 12) else 0) (updZ g (0 : Int).toNat (v - 1))) 5 = gd := (rgF_out (by omega)).trans ((if_neg (by decide)).trans e5)
            have en6 : (rgF (13 + 12 * a) (61 - (13 + 12 * a)) (fun j : Nat => if (j : Int) + 12 < 61 then (updZ g (0 : Int).toNat (v - 1)) (j + 12) else 0) (updZ g (0 : Int).toNat (v - 1))) 6 = co := (rgF_out (by omega)).trans ((if_neg (by decide)).trans e6)
            have hb3 : ∀ j : Nat, (j : Int) < 12 * (v - 1) → (rgF (13 + 12 * a) (61 - (13 + 12 * a)) (fun j : Nat => if (j : Int) + 12 < 61 then (updZ g (0 : Int).toNat (v - 1)) (j + 12) else 0) (updZ g (0 : Int).toNat (v - 1))) (13 + j) = rgF (a * 12) ((v - 1 - a) * 12) (fun j => c (j + 12)) c j := fun j hj => by
              by_cases hj2 : a * 12 ≤ (j : Int)
              · rw [rgF_in (by omega), rgF_in (by omega), if_pos (by omega)]
                exact (if_neg (by omega)).trans (xV2.2.2.2.1 (j + 12) (by omega))
              · rw [rgF_out (by omega), rgF_out (by omega)]
                exact (if_neg (by omega)).trans (xV2.2.2.2.1 j (by omega))
            have hb4 : ∀ j : Nat, 12 * (v - 1) ≤ (j : Int) → j < 48 → (rgF (13 + 12 * a) (61 - (13 + 12 * a)) (fun j : Nat => if (j : Int) + 12 < 61 then (updZ g (0 : Int).toNat (v - 1)) (j + 12) else 0) (updZ g (0 : Int).toNat (v - 1))) (13 + j) = 0 := fun j hj hj2 => by
              rw [rgF_in (by omega)]
              by_cases hj3 : ((13 + j : Nat) : Int) + 12 < 61
              · rw [if_pos hj3]
                exact (if_neg (by omega)).trans (xV2.2.2.2.2 (j + 12) (by omega) (by omega))
              · rw [if_neg hj3]
            refine r_aload_n (pc2 := 87) dX5_removeView_86 rfl rfl ?_
            refine r_callv_0 (pc2 := 90) dX5_removeView_87 rfl rs_5_34 rfl (by decide) rfl (Nat.le_of_ble_eq_true rfl) (Nat.le_of_ble_eq_true rfl) (by assumption) (by assumption) (m_ordersAsFirst (wst wr 34 (arO 61 (rgF (13 + 12 * a) (61 - (13 + 12 * a)) (fun j : Nat => if (j : Int) + 12 < 61 then (updZ g (0 : Int).toNat (v - 1)) (j + 12) else 0) (updZ g (0 : Int).toNat (v - 1))))) y42 _ _ _ _ _ _ _ z33w (rgF (13 + 12 * a) (61 - (13 + 12 * a)) (fun j : Nat => if (j : Int) + 12 < 61 then (updZ g (0 : Int).toNat (v - 1)) (j + 12) else 0) (updZ g (0 : Int).toNat (v - 1))) wst_self ⟨by omega, by omega, by omega, by omega⟩) (fun r_ w_ h_ => ?_)
            rw [h_.1, h_.2, en0, en1, wst_wst]
            clear h_ w_ r_
            have u33 : 33 < (wst wr 34 (arO 61 (rgF 7 6 (oaF (v - 1) p) (rgF (13 + 12 * a) (61 - (13 + 12 * a)) (fun j : Nat => if (j : Int) + 12 < 61 then (updZ g (0 : Int).toNat (v - 1)) (j + 12) else 0) (updZ g (0 : Int).toNat (v - 1)))))).1 := y33
            have u33w := (wst_ne (w := wr) (a := 34) (b := 33) (e := arO 61 (rgF 7 6 (oaF (v - 1) p) (rgF (13 + 12 * a) (61 - (13 + 12 * a)) (fun j : Nat => if (j : Int) + 12 < 61 then (updZ g (0 : Int).toNat (v - 1)) (j + 12) else 0) (updZ g (0 : Int).toNat (v - 1))))) (by decide)).trans y33w
            have u34 : 34 < (wst wr 34 (arO 61 (rgF 7 6 (oaF (v - 1) p) (rgF (13 + 12 * a) (61 - (13 + 12 * a)) (fun j : Nat => if (j : Int) + 12 < 61 then (updZ g (0 : Int).toNat (v - 1)) (j + 12) else 0) (updZ g (0 : Int).toNat (v - 1)))))).1 := y34
            have u34w : (wst wr 34 (arO 61 (rgF 7 6 (oaF (v - 1) p) (rgF (13 + 12 * a) (61 - (13 + 12 * a)) (fun j : Nat => if (j : Int) + 12 < 61 then (updZ g (0 : Int).toNat (v - 1)) (j + 12) else 0) (updZ g (0 : Int).toNat (v - 1)))))).2.2 34 = arO 61 (rgF 7 6 (oaF (v - 1) p) (rgF (13 + 12 * a) (61 - (13 + 12 * a)) (fun j : Nat => if (j : Int) + 12 < 61 then (updZ g (0 : Int).toNat (v - 1)) (j + 12) else 0) (updZ g (0 : Int).toNat (v - 1)))) := wst_self
            refine ⟨rfl, ?_⟩
            refine r_aload_n (pc2 := 91) dX5_removeView_90 rfl rfl ?_
            refine r_aload_n (pc2 := 92) dX5_removeView_91 rfl rfl ?_
            refine r_getf (pc2 := 95) dX5_removeView_92 rfl fl_5_7 (by assumption) (by assumption) (by rfl) ?_
            refine r_iconst (pc2 := 96) dX5_removeView_95 rfl ?_
            refine r_ialk (k := 0) (pc2 := 97) dX5_removeView_96 rfl (by decide) (by assumption) (by assumption) (by omega) (by omega) (by omega) (by decide) ?_
            rw [show (rgF 7 6 (oaF (v - 1) p) (rgF (13 + 12 * a) (61 - (13 + 12 * a)) (fun j : Nat => if (j : Int) + 12 < 61 then (updZ g (0 : Int).toNat (v - 1)) (j + 12) else 0) (updZ g (0 : Int).toNat (v - 1)))) 0 = v - 1 from (rgF_out (by omega)).trans en0]
            refine r_callv_1 (pc2 := 100) dX5_removeView_97 rfl rs_5_97 rfl (by decide) rfl (Nat.le_of_ble_eq_true rfl) (Nat.le_of_ble_eq_true rfl) (by assumption) (by assumption) (m_actC _ _ ke2 (v - 1, p, sh, ln, pr, gd, co, rgF (a * 12) ((v - 1 - a) * 12) (fun j => c (j + 12)) c, preF 6 (inT (v - 1)) s) (v, p, sh, ln, pr, gd, co, c, s) L n S hs len t (REFG_34 hr (gV_first (g := (rgF (13 + 12 * a) (61 - (13 + 12 * a)) (fun j : Nat => if (j : Int) + 12 < 61 then (updZ g (0 : Int).toNat (v - 1)) (j + 12) else 0) (updZ g (0 : Int).toNat (v - 1)))) hp.2 ⟨en0, en1, en2, en3, en4, en5, en6⟩ hb3 hb4)) ⟨hv.2, hp.2⟩ hke hL hn (v - 1)) (fun r_ w_ h_ => ?_)
            rw [h_.1]
            refine ⟨h_.2.1.1, ?_⟩
            refine r_ret dX5_removeView_100 rfl ?_
            refine MA_s (x := v - 1) (V2 := (v - 1, p, sh, ln, pr, gd, co, rgF (a * 12) ((v - 1 - a) * 12) (fun j => c (j + 12)) c, preF 6 (inT (v - 1)) s)) ?_ ⟨rfl, agO.trans ?_ h_.2.1, h_.2.2⟩
            · show (if ¬ (0 ≤ a ∧ a ≤ v - 1) then (-101, none) else if v ≤ 2 then (-104, none) else (v - 1, some (v - 1, p, sh, ln, pr, gd, co, rgF (a * 12) ((v - 1 - a) * 12) (fun j => c (j + 12)) c, preF 6 (inT (v - 1)) s))) = _
              rw [if_neg (by omega), if_neg (by omega)]
            · exact gr.trans (agO.wst _ (by omega))
          · refine r_aload_n (pc2 := 53) dX5_removeView_52 rfl rfl ?_
            refine r_getf (pc2 := 56) dX5_removeView_53 rfl fl_5_7 (by assumption) (by assumption) (by rfl) ?_
            refine r_iload_n (pc2 := 57) dX5_removeView_56 rfl rfl ?_
            refine r_iload_n (pc2 := 58) dX5_removeView_57 rfl rfl ?_
            refine r_bipush (pc2 := 60) dX5_removeView_58 rfl (by decide) ?_
            refine r_iadd (pc2 := 61) dX5_removeView_60 rfl ?_
            refine r_bipush (pc2 := 63) dX5_removeView_61 rfl (by decide) ?_
            refine r_icmp_ge (pc2 := 66) (tgt := 78) dX5_removeView_63 rfl (by decide) (by omega) (by omega) (fun h63 => ?_) (fun h63 => ?_)
            · have hb : 0 = (fun j : Nat => if (j : Int) + 12 < 61 then (updZ g (0 : Int).toNat (v - 1)) (j + 12) else 0) k.toNat := (if_neg (by omega)).symm
              refine r_iconst (pc2 := 79) dX5_removeView_78 rfl ?_
              refine r_iast (pc2 := 80) dX5_removeView_79 rfl (by assumption) (by assumption) (by omega) (by omega) (by omega) ?_
              rw [wst_wst, rm_step (by omega) (by omega) hb]
              refine r_iinc_2 (pc2 := 83) dX5_removeView_80 rfl rfl ?_
              refine r_goto (tgt := 46) dX5_removeView_83 (by decide) ?_
              exact ih (k + 1) (by omega)
            · have hb : (rgF (13 + 12 * a) (k - (13 + 12 * a)) (fun j : Nat => if (j : Int) + 12 < 61 then (updZ g (0 : Int).toNat (v - 1)) (j + 12) else 0) (updZ g (0 : Int).toNat (v - 1))) (k + 12).toNat = (fun j : Nat => if (j : Int) + 12 < 61 then (updZ g (0 : Int).toNat (v - 1)) (j + 12) else 0) k.toNat := by
                rw [rgF_out (by omega)]
                refine Eq.trans ?_ (if_pos (by omega)).symm
                congr 1
                omega
              refine r_aload_n (pc2 := 67) dX5_removeView_66 rfl rfl ?_
              refine r_getf (pc2 := 70) dX5_removeView_67 rfl fl_5_7 (by assumption) (by assumption) (by rfl) ?_
              refine r_iload_n (pc2 := 71) dX5_removeView_70 rfl rfl ?_
              refine r_bipush (pc2 := 73) dX5_removeView_71 rfl (by decide) ?_
              refine r_iadd (pc2 := 74) dX5_removeView_73 rfl ?_
              refine r_iald (pc2 := 75) dX5_removeView_74 rfl (by decide) (by assumption) (by assumption) (by omega) (by omega) (by omega) ?_
              refine r_goto (tgt := 79) dX5_removeView_75 (by decide) ?_
              refine r_iast (pc2 := 80) dX5_removeView_79 rfl (by assumption) (by assumption) (by omega) (by omega) (by omega) ?_
              rw [wst_wst, rm_step (by omega) (by omega) hb]
              refine r_iinc_2 (pc2 := 83) dX5_removeView_80 rfl rfl ?_
              refine r_goto (tgt := 46) dX5_removeView_83 (by decide) ?_
              exact ih (k + 1) (by omega)
      have q := inner 62 (13 + 12 * a) (by omega)
      rw [show 13 + 12 * a - (13 + 12 * a) = 0 by omega, rgF_0] at q
      exact q
    · refine r_bipush (pc2 := 23) dX5_removeView_21 rfl (by decide) ?_
      refine r_ret dX5_removeView_23 rfl ?_
      refine MA_n (x := -104) ?_ rfl agO.rf ⟨g, ke, h⟩
      show (if ¬ (0 ≤ a ∧ a ≤ v - 1) then (-101, none) else if v ≤ 2 then (-104, none) else (v - 1, some (v - 1, p, sh, ln, pr, gd, co, rgF (a * 12) ((v - 1 - a) * 12) (fun j => c (j + 12)) c, preF 6 (inT (v - 1)) s))) = _
      rw [if_neg (by omega), if_pos (by omega)]
  · refine r_bipush (pc2 := 10) dX5_removeView_8 rfl (by decide) ?_
    refine r_ret dX5_removeView_10 rfl ?_
    refine MA_n (x := -101) ?_ rfl agO.rf ⟨g, ke, h⟩
    show (if ¬ (0 ≤ a ∧ a ≤ v - 1) then (-101, none) else if v ≤ 2 then (-104, none) else (v - 1, some (v - 1, p, sh, ln, pr, gd, co, rgF (a * 12) ((v - 1 - a) * 12) (fun j => c (j + 12)) c, preF 6 (inT (v - 1)) s))) = _
    rw [if_pos (by omega)]

set_option maxHeartbeats 4000000 in
theorem m_swap (w : av_W) (v p sh ln pr gd co : Int) (c s : Nat → Int) (L : Nat → CV) (n : Int) (S : CV) (hs len : Int) (t : Nat → Int) (g ke : Nat → Int) (h : REFG w g ke (v, p, sh, ln, pr, gd, co, c, s) L n S hs len t) (hV : KV (v, p, sh, ln, pr, gd, co, c, s)) (hn : 0 ≤ n ∧ n ≤ 4) (hL : ∀ i : Nat, (i : Int) < n → (L i).1 ≤ 4 ∧ (L i).2.1 ≤ 6) (a b : Int) (ha : RG a) (hb : RG b) : cl MX5_swap [.ref 33, .int (iN a), .int (iN b)] w (fun r' w' => MA w w' r' (o_swap (v, p, sh, ln, pr, gd, co, c, s) a b) (v, p, sh, ln, pr, gd, co, c, s) L n S hs len t) := by
  obtain ⟨x42, ⟨xsp, xrv, xrs, xoa, x33w⟩, ⟨x34w, xV⟩, x35w, -⟩ := id h
  have x33 : 33 < w.1 := by omega
  have x34 : 34 < w.1 := by omega
  obtain ⟨hK, hS, hc, hpr⟩ := id hV
  have hK : KR v p sh ln := hK
  have hS : SR s := hS
  have hc : ∀ j : Nat, j < 48 → 0 ≤ c j ∧ c j ≤ 9 := hc
  have hpr : 0 ≤ pr ∧ pr ≤ 99999 := hpr
  obtain ⟨hv, hp, hsh, hln⟩ := id hK
  have xV2 : gV (v, p, sh, ln, pr, gd, co, c, s) g := xV
  obtain ⟨⟨e0, e1, e2, e3, e4, e5, e6⟩, -⟩ := id xV2
  have hGR : GR g := ⟨by omega, by omega, by omega, by omega⟩
  have haR : -2147483648 ≤ a ∧ a < 2147483648 := ha
  have hbR : -2147483648 ≤ b ∧ b < 2147483648 := hb
  show rn MX5_swap 0 [some (.ref 33), some (.int (iN a)), some (.int (iN b)), none, none, none] [] w _
  refine r_aload_n (pc2 := 1) dX5_swap_0 rfl rfl ?_
  refine r_iload_n (pc2 := 2) dX5_swap_1 rfl rfl ?_
  refine r_callv_1 (pc2 := 5) dX5_swap_2 rfl rs_5_84 rfl (by decide) rfl (Nat.le_of_ble_eq_true rfl) (Nat.le_of_ble_eq_true rfl) (by assumption) (by assumption) (m_isView w x42 _ _ _ _ _ _ _ x33w g x34w hGR a ha) (fun r_ w_ h_ => ?_)
  rw [h_.1, h_.2]
  clear h_ w_ r_
  refine ⟨rfl, ?_⟩
  refine r_ifb_eq (pc2 := 8) (tgt := 16) dX5_swap_5 rfl (by decide)  (fun h5 => ?_) (fun h5 => ?_)
  · refine r_bipush (pc2 := 18) dX5_swap_16 rfl (by decide) ?_
    refine r_ret dX5_swap_18 rfl ?_
    refine MA_n (x := -101) ?_ rfl agO.rf ⟨g, ke, h⟩
    show (if ¬ ((0 ≤ a ∧ a ≤ v - 1) ∧ (0 ≤ b ∧ b ≤ v - 1)) then (-101, none) else if a = b then (-105, none) else (sm 12 (unF a b c), some (v, p, sh, ln, pr, gd, co, exF a b 12 c, s))) = _
    rw [if_pos (by omega)]
  · refine r_aload_n (pc2 := 9) dX5_swap_8 rfl rfl ?_
    refine r_iload_n (pc2 := 10) dX5_swap_9 rfl rfl ?_
    refine r_callv_1 (pc2 := 13) dX5_swap_10 rfl rs_5_84 rfl (by decide) rfl (Nat.le_of_ble_eq_true rfl) (Nat.le_of_ble_eq_true rfl) (by assumption) (by assumption) (m_isView w x42 _ _ _ _ _ _ _ x33w g x34w hGR b hb) (fun r_ w_ h_ => ?_)
    rw [h_.1, h_.2]
    clear h_ w_ r_
    refine ⟨rfl, ?_⟩
    refine r_ifb_ne (pc2 := 16) (tgt := 19) dX5_swap_13 rfl (by decide)  (fun h13 => ?_) (fun h13 => ?_)
    · refine r_iload_n (pc2 := 20) dX5_swap_19 rfl rfl ?_
      refine r_iload_n (pc2 := 21) dX5_swap_20 rfl rfl ?_
      refine r_icmp_ne (pc2 := 24) (tgt := 27) dX5_swap_21 rfl (by decide) (by omega) (by omega) (fun h21 => ?_) (fun h21 => ?_)
      · refine r_aload_n (pc2 := 28) dX5_swap_27 rfl rfl ?_
        refine r_callv_0 (pc2 := 31) dX5_swap_28 rfl rs_5_94 rfl (by decide) rfl (Nat.le_of_ble_eq_true rfl) (Nat.le_of_ble_eq_true rfl) (by assumption) (by assumption) (m_remC _ _ _ (v, p, sh, ln, pr, gd, co, c, s) _ _ _ _ _ _ h ⟨hv.2, hp.2⟩) (fun r_ w_ h_ => ?_)
        obtain ⟨e_, gr, ke2, hr, hke⟩ := h_
        rw [e_]
        clear e_
        obtain ⟨wr, rfl⟩ : ∃ wr, wr = w_ := ⟨_, rfl⟩
        obtain ⟨y42, ⟨ysp, yrv, yrs, yoa, y33w⟩, ⟨y34w, yV⟩, y35w, -⟩ := id hr
        have y33 : 33 < wr.1 := by omega
        have y34 : 34 < wr.1 := by omega
        refine ⟨gr.1, ?_⟩
        have hab : a ≠ b := by omega
        refine r_iconst (pc2 := 32) dX5_swap_31 rfl ?_
        refine r_ist_3 (pc2 := 33) dX5_swap_32 rfl rfl ?_
        refine r_iconst (pc2 := 34) dX5_swap_33 rfl ?_
        refine r_ist_4 (pc2 := 36) dX5_swap_34 rfl rfl ?_
        have inner : ∀ (m : Nat) (k : Int) (mm : Int) (b5 : Option Value), ((0 ≤ k ∧ k ≤ 12) ∧ 13 ≤ k + m) → (mm = sm k.toNat (unF a b c)) → rn MX5_swap 36 [some (.ref 33), some (.int (iN a)), some (.int (iN b)), some (.int (iN mm)), some (.int (iN k)), b5] [] (wst wr 34 (arO 61 (exG a b k g))) (fun r' w' => MA w w' r' (o_swap (v, p, sh, ln, pr, gd, co, c, s) a b) (v, p, sh, ln, pr, gd, co, c, s) L n S hs len t) := by
          intro m
          induction m with
          | zero =>
            intro k mm b5 hk0 hk1
            exfalso
            omega
          | succ m ih =>
            intro k mm b5 hk0 hk1
            have z33 : 33 < (wst wr 34 (arO 61 (exG a b k g))).1 := y33
            have z33w := (wst_ne (w := wr) (a := 34) (b := 33) (e := arO 61 (exG a b k g)) (by decide)).trans y33w
            have z34 : 34 < (wst wr 34 (arO 61 (exG a b k g))).1 := y34
            have z34w : (wst wr 34 (arO 61 (exG a b k g))).2.2 34 = arO 61 (exG a b k g) := wst_self
            have ne : ∀ j : Nat, j < 13 → (exG a b k g) j = g j := fun j hj => if_neg (by omega)
            have hGA : GR (exG a b k g) := (show GR (exG a b k g) from ⟨by rw [ne _ (by omega)]; omega, by rw [ne _ (by omega)]; omega, by rw [ne _ (by omega)]; omega, by rw [ne _ (by omega)]; omega⟩)
            refine r_iload (pc2 := 38) dX5_swap_36 rfl rfl ?_
            refine r_bipush (pc2 := 40) dX5_swap_38 rfl (by decide) ?_
            refine r_icmp_ge (pc2 := 43) (tgt := 117) dX5_swap_40 rfl (by decide) (by omega) (by omega) (fun h40 => ?_) (fun h40 => ?_)
            · have h6 : k = 12 := by omega
              subst h6
              rw [hk1]
              refine r_aload_n (pc2 := 118) dX5_swap_117 rfl rfl ?_
              refine r_iload_n (pc2 := 119) dX5_swap_118 rfl rfl ?_
              refine r_callv_1 (pc2 := 122) dX5_swap_119 rfl rs_5_97 rfl (by decide) rfl (Nat.le_of_ble_eq_true rfl) (Nat.le_of_ble_eq_true rfl) (by assumption) (by assumption) (m_actC _ _ ke2 (v, p, sh, ln, pr, gd, co, exF a b 12 c, s) (v, p, sh, ln, pr, gd, co, c, s) L n S hs len t (REFG_34 hr (gV_ex xV2 hp.2 (by omega) (by omega))) ⟨hv.2, hp.2⟩ hke hL hn (sm 12 (unF a b c))) (fun r_ w_ h_ => ?_)
              rw [h_.1]
              refine ⟨h_.2.1.1, ?_⟩
              refine r_ret dX5_swap_122 rfl ?_
              refine MA_s (x := sm 12 (unF a b c)) (V2 := (v, p, sh, ln, pr, gd, co, exF a b 12 c, s)) ?_ ⟨rfl, agO.trans ?_ h_.2.1, h_.2.2⟩
              · show (if ¬ ((0 ≤ a ∧ a ≤ v - 1) ∧ (0 ≤ b ∧ b ≤ v - 1)) then (-101, none) else if a = b then (-105, none) else (sm 12 (unF a b c), some (v, p, sh, ln, pr, gd, co, exF a b 12 c, s))) = _
                rw [if_neg (by omega), if_neg (by omega)]
              · exact gr.trans (agO.wst _ (by omega))
            · refine r_aload_n (pc2 := 44) dX5_swap_43 rfl rfl ?_
              refine r_iload_n (pc2 := 45) dX5_swap_44 rfl rfl ?_
              refine r_iload (pc2 := 47) dX5_swap_45 rfl rfl ?_
              have xa := exG_at (g := g) (k := k) (by omega) (by omega) hab ⟨by omega, by omega⟩
              have ea : g (13 + 12 * a + k).toNat = c (a * 12 + k).toNat := by rw [show (13 + 12 * a + k).toNat = 13 + (a * 12 + k).toNat by omega]; exact xV2.2.2.2.1 _ (by omega)
              have eb : g (13 + 12 * b + k).toNat = c (b * 12 + k).toNat := by rw [show (13 + 12 * b + k).toNat = 13 + (b * 12 + k).toNat by omega]; exact xV2.2.2.2.1 _ (by omega)
              have ca := hc (a * 12 + k).toNat (by omega)
              have cb := hc (b * 12 + k).toNat (by omega)
              refine r_callv_2 (pc2 := 50) dX5_swap_47 rfl rs_5_91 rfl (by decide) rfl (Nat.le_of_ble_eq_true rfl) (Nat.le_of_ble_eq_true rfl) (by assumption) (by assumption) (m_colourAt (wst wr 34 (arO 61 (exG a b k g))) y42 _ _ _ _ _ _ _ z33w (exG a b k g) wst_self hGA a k (by omega) (by omega)) (fun r_ w_ h_ => ?_)
              rw [h_.1, h_.2]
              clear h_ w_ r_
              refine ⟨rfl, ?_⟩
              rw [xa.1]
              refine r_ist_5 (pc2 := 52) dX5_swap_50 rfl rfl ?_
              refine r_iload_n (pc2 := 53) dX5_swap_52 rfl rfl ?_
              refine r_iload (pc2 := 55) dX5_swap_53 rfl rfl ?_
              refine r_aload_n (pc2 := 56) dX5_swap_55 rfl rfl ?_
              refine r_iload_n (pc2 := 57) dX5_swap_56 rfl rfl ?_
              refine r_iload (pc2 := 59) dX5_swap_57 rfl rfl ?_
              refine r_callv_2 (pc2 := 62) dX5_swap_59 rfl rs_5_91 rfl (by decide) rfl (Nat.le_of_ble_eq_true rfl) (Nat.le_of_ble_eq_true rfl) (by assumption) (by assumption) (m_colourAt (wst wr 34 (arO 61 (exG a b k g))) y42 _ _ _ _ _ _ _ z33w (exG a b k g) wst_self hGA b k (by omega) (by omega)) (fun r_ w_ h_ => ?_)
              rw [h_.1, h_.2]
              clear h_ w_ r_
              refine ⟨rfl, ?_⟩
              rw [xa.2]
              refine r_icmp_ne (pc2 := 65) (tgt := 69) dX5_swap_62 rfl (by decide) (by omega) (by omega) (fun h62 => ?_) (fun h62 => ?_)
              · have hb : unF a b c k.toNat = 1 := by unfold unF; rw [tn hk0.1.1]; exact bz_t (by omega)
                refine r_iconst (pc2 := 70) dX5_swap_69 rfl ?_
                refine r_iadd (pc2 := 71) dX5_swap_70 rfl ?_
                refine r_ist_3 (pc2 := 72) dX5_swap_71 rfl rfl ?_
                refine r_aload_n (pc2 := 73) dX5_swap_72 rfl rfl ?_
                refine r_getf (pc2 := 76) dX5_swap_73 rfl fl_5_7 (by assumption) (by assumption) (by rfl) ?_
                refine r_bipush (pc2 := 78) dX5_swap_76 rfl (by decide) ?_
                refine r_bipush (pc2 := 80) dX5_swap_78 rfl (by decide) ?_
                refine r_iload_n (pc2 := 81) dX5_swap_80 rfl rfl ?_
                refine r_imul (pc2 := 82) dX5_swap_81 rfl ?_
                refine r_iadd (pc2 := 83) dX5_swap_82 rfl ?_
                refine r_iload (pc2 := 85) dX5_swap_83 rfl rfl ?_
                refine r_iadd (pc2 := 86) dX5_swap_85 rfl ?_
                refine r_aload_n (pc2 := 87) dX5_swap_86 rfl rfl ?_
                refine r_iload_n (pc2 := 88) dX5_swap_87 rfl rfl ?_
                refine r_iload (pc2 := 90) dX5_swap_88 rfl rfl ?_
                refine r_callv_2 (pc2 := 93) dX5_swap_90 rfl rs_5_91 rfl (by decide) rfl (Nat.le_of_ble_eq_true rfl) (Nat.le_of_ble_eq_true rfl) (by assumption) (by assumption) (m_colourAt (wst wr 34 (arO 61 (exG a b k g))) y42 _ _ _ _ _ _ _ z33w (exG a b k g) wst_self hGA b k (by omega) (by omega)) (fun r_ w_ h_ => ?_)
                rw [h_.1, h_.2]
                clear h_ w_ r_
                refine ⟨rfl, ?_⟩
                rw [xa.2]
                refine r_iast (pc2 := 94) dX5_swap_93 rfl (by assumption) (by assumption) (by omega) (by omega) (by omega) ?_
                rw [wst_wst]
                have u33 : 33 < (wst wr 34 (arO 61 (updZ (exG a b k g) (13 + 12 * a + k).toNat (g (13 + 12 * b + k).toNat)))).1 := y33
                have u33w := (wst_ne (w := wr) (a := 34) (b := 33) (e := arO 61 (updZ (exG a b k g) (13 + 12 * a + k).toNat (g (13 + 12 * b + k).toNat))) (by decide)).trans y33w
                have u34 : 34 < (wst wr 34 (arO 61 (updZ (exG a b k g) (13 + 12 * a + k).toNat (g (13 + 12 * b + k).toNat)))).1 := y34
                have u34w : (wst wr 34 (arO 61 (updZ (exG a b k g) (13 + 12 * a + k).toNat (g (13 + 12 * b + k).toNat)))).2.2 34 = arO 61 (updZ (exG a b k g) (13 + 12 * a + k).toNat (g (13 + 12 * b + k).toNat)) := wst_self
                refine r_aload_n (pc2 := 95) dX5_swap_94 rfl rfl ?_
                refine r_getf (pc2 := 98) dX5_swap_95 rfl fl_5_7 (by assumption) (by assumption) (by rfl) ?_
                refine r_bipush (pc2 := 100) dX5_swap_98 rfl (by decide) ?_
                refine r_bipush (pc2 := 102) dX5_swap_100 rfl (by decide) ?_
                refine r_iload_n (pc2 := 103) dX5_swap_102 rfl rfl ?_
                refine r_imul (pc2 := 104) dX5_swap_103 rfl ?_
                refine r_iadd (pc2 := 105) dX5_swap_104 rfl ?_
                refine r_iload (pc2 := 107) dX5_swap_105 rfl rfl ?_
                refine r_iadd (pc2 := 108) dX5_swap_107 rfl ?_
                refine r_iload (pc2 := 110) dX5_swap_108 rfl rfl ?_
                refine r_iast (pc2 := 111) dX5_swap_110 rfl (by assumption) (by assumption) (by omega) (by omega) (by omega) ?_
                rw [wst_wst, exG_step g (by omega) (by omega) hab ⟨by omega, by omega⟩]
                refine r_iinc_4 (pc2 := 114) dX5_swap_111 rfl rfl ?_
                refine r_goto (tgt := 36) dX5_swap_114 (by decide) ?_
                exact ih (k + 1) _ _ (by omega) (by rw [sm_step hk0.1.1, ← hk1, hb])
              · have hb : unF a b c k.toNat = 0 := by unfold unF; rw [tn hk0.1.1]; exact bz_f (fun q => q (by omega))
                refine r_iconst (pc2 := 66) dX5_swap_65 rfl ?_
                refine r_goto (tgt := 70) dX5_swap_66 (by decide) ?_
                refine r_iadd (pc2 := 71) dX5_swap_70 rfl ?_
                refine r_ist_3 (pc2 := 72) dX5_swap_71 rfl rfl ?_
                refine r_aload_n (pc2 := 73) dX5_swap_72 rfl rfl ?_
                refine r_getf (pc2 := 76) dX5_swap_73 rfl fl_5_7 (by assumption) (by assumption) (by rfl) ?_
                refine r_bipush (pc2 := 78) dX5_swap_76 rfl (by decide) ?_
                refine r_bipush (pc2 := 80) dX5_swap_78 rfl (by decide) ?_
                refine r_iload_n (pc2 := 81) dX5_swap_80 rfl rfl ?_
                refine r_imul (pc2 := 82) dX5_swap_81 rfl ?_
                refine r_iadd (pc2 := 83) dX5_swap_82 rfl ?_
                refine r_iload (pc2 := 85) dX5_swap_83 rfl rfl ?_
                refine r_iadd (pc2 := 86) dX5_swap_85 rfl ?_
                refine r_aload_n (pc2 := 87) dX5_swap_86 rfl rfl ?_
                refine r_iload_n (pc2 := 88) dX5_swap_87 rfl rfl ?_
                refine r_iload (pc2 := 90) dX5_swap_88 rfl rfl ?_
                refine r_callv_2 (pc2 := 93) dX5_swap_90 rfl rs_5_91 rfl (by decide) rfl (Nat.le_of_ble_eq_true rfl) (Nat.le_of_ble_eq_true rfl) (by assumption) (by assumption) (m_colourAt (wst wr 34 (arO 61 (exG a b k g))) y42 _ _ _ _ _ _ _ z33w (exG a b k g) wst_self hGA b k (by omega) (by omega)) (fun r_ w_ h_ => ?_)
                rw [h_.1, h_.2]
                clear h_ w_ r_
                refine ⟨rfl, ?_⟩
                rw [xa.2]
                refine r_iast (pc2 := 94) dX5_swap_93 rfl (by assumption) (by assumption) (by omega) (by omega) (by omega) ?_
                rw [wst_wst]
                have u33 : 33 < (wst wr 34 (arO 61 (updZ (exG a b k g) (13 + 12 * a + k).toNat (g (13 + 12 * b + k).toNat)))).1 := y33
                have u33w := (wst_ne (w := wr) (a := 34) (b := 33) (e := arO 61 (updZ (exG a b k g) (13 + 12 * a + k).toNat (g (13 + 12 * b + k).toNat))) (by decide)).trans y33w
                have u34 : 34 < (wst wr 34 (arO 61 (updZ (exG a b k g) (13 + 12 * a + k).toNat (g (13 + 12 * b + k).toNat)))).1 := y34
                have u34w : (wst wr 34 (arO 61 (updZ (exG a b k g) (13 + 12 * a + k).toNat (g (13 + 12 * b + k).toNat)))).2.2 34 = arO 61 (updZ (exG a b k g) (13 + 12 * a + k).toNat (g (13 + 12 * b + k).toNat)) := wst_self
                refine r_aload_n (pc2 := 95) dX5_swap_94 rfl rfl ?_
                refine r_getf (pc2 := 98) dX5_swap_95 rfl fl_5_7 (by assumption) (by assumption) (by rfl) ?_
                refine r_bipush (pc2 := 100) dX5_swap_98 rfl (by decide) ?_
                refine r_bipush (pc2 := 102) dX5_swap_100 rfl (by decide) ?_
                refine r_iload_n (pc2 := 103) dX5_swap_102 rfl rfl ?_
                refine r_imul (pc2 := 104) dX5_swap_103 rfl ?_
                refine r_iadd (pc2 := 105) dX5_swap_104 rfl ?_
                refine r_iload (pc2 := 107) dX5_swap_105 rfl rfl ?_
                refine r_iadd (pc2 := 108) dX5_swap_107 rfl ?_
                refine r_iload (pc2 := 110) dX5_swap_108 rfl rfl ?_
                refine r_iast (pc2 := 111) dX5_swap_110 rfl (by assumption) (by assumption) (by omega) (by omega) (by omega) ?_
                rw [wst_wst, exG_step g (by omega) (by omega) hab ⟨by omega, by omega⟩]
                refine r_iinc_4 (pc2 := 114) dX5_swap_111 rfl rfl ?_
                refine r_goto (tgt := 36) dX5_swap_114 (by decide) ?_
                exact ih (k + 1) _ _ (by omega) (by rw [sm_step hk0.1.1, ← hk1, hb])
        have q := inner 13 0 0 none (by omega) rfl
        rw [exG_0, wst_id y34w] at q
        exact q
      · refine r_bipush (pc2 := 26) dX5_swap_24 rfl (by decide) ?_
        refine r_ret dX5_swap_26 rfl ?_
        refine MA_n (x := -105) ?_ rfl agO.rf ⟨g, ke, h⟩
        show (if ¬ ((0 ≤ a ∧ a ≤ v - 1) ∧ (0 ≤ b ∧ b ≤ v - 1)) then (-101, none) else if a = b then (-105, none) else (sm 12 (unF a b c), some (v, p, sh, ln, pr, gd, co, exF a b 12 c, s))) = _
        rw [if_neg (by omega), if_pos (by omega)]
    · refine r_bipush (pc2 := 18) dX5_swap_16 rfl (by decide) ?_
      refine r_ret dX5_swap_18 rfl ?_
      refine MA_n (x := -101) ?_ rfl agO.rf ⟨g, ke, h⟩
      show (if ¬ ((0 ≤ a ∧ a ≤ v - 1) ∧ (0 ≤ b ∧ b ≤ v - 1)) then (-101, none) else if a = b then (-105, none) else (sm 12 (unF a b c), some (v, p, sh, ln, pr, gd, co, exF a b 12 c, s))) = _
      rw [if_pos (by omega)]
