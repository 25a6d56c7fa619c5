/-! the reference: remember, the first order, acted -/

set_option maxHeartbeats 4000000 in
theorem m_remember (w : av_W) (h42 : 42 ≤ w.1) (hl tk tl sp rv rs oa : Int) (hO : w.2.2 33 = mdO hl tk tl sp rv rs oa) (g : Nat → Int) (hA : w.2.2 34 = arO 61 g) (ke : Nat → Int) (hKe : w.2.2 35 = arO 61 ke) : fn MX5_remember [.ref 33] w none (wst w 35 (arO 61 (preF 61 g ke))) := by
  have k33 : 33 < w.1 := by omega
  have k34 : 34 < w.1 := by omega
  have k35 : 35 < w.1 := by omega
  have k36 : 36 < w.1 := by omega
  show rn MX5_remember 0 [some (.ref 33), none] [] w (fun r' w' => r' = none ∧ w' = (wst w 35 (arO 61 (preF 61 g ke))))
  have loop : ∀ (n : Nat) (k : Int), (0 ≤ k ∧ k ≤ 61 ∧ 62 ≤ k + n) → rn MX5_remember 2 [some (.ref 33), some (.int (iN k))] [] (wst w 35 (arO 61 (preF k g ke))) (fun r' w' => r' = none ∧ w' = (wst w 35 (arO 61 (preF 61 g ke)))) := by
    intro n
    induction n with
    | zero =>
      intro k hk0
      exfalso
      omega
    | succ n ih =>
      intro k hk0
      have q33 : 33 < (wst w 35 (arO 61 (preF k g ke))).1 := k33
      have q33w : (wst w 35 (arO 61 (preF k g ke))).2.2 33 = mdO hl tk tl sp rv rs oa := by rw [wst_ne (by decide)]; exact hO
      have q34 : 34 < (wst w 35 (arO 61 (preF k g ke))).1 := k34
      have q35 : 35 < (wst w 35 (arO 61 (preF k g ke))).1 := k35
      have q34w : (wst w 35 (arO 61 (preF k g ke))).2.2 34 = arO 61 g := by rw [wst_ne (by decide)]; exact hA
      have q35w : (wst w 35 (arO 61 (preF k g ke))).2.2 35 = arO 61 (preF k g ke) := wst_self
      refine r_iload_n (pc2 := 3) dX5_remember_2 rfl rfl ?_
      refine r_bipush (pc2 := 5) dX5_remember_3 rfl (by decide) ?_
      refine r_icmp_ge (pc2 := 8) (tgt := 26) dX5_remember_5 rfl (by decide) (by omega) (by omega) (fun h5 => ?_) (fun h5 => ?_)
      · have h6 : k = 61 := by omega
        subst h6
        refine r_retv dX5_remember_26 rfl ?_
        exact ⟨rfl, rfl⟩
      · refine r_aload_n (pc2 := 9) dX5_remember_8 rfl rfl ?_
        refine r_getf (pc2 := 12) dX5_remember_9 rfl fl_5_13 (by assumption) (by assumption) (by rfl) ?_
        refine r_iload_n (pc2 := 13) dX5_remember_12 rfl rfl ?_
        refine r_aload_n (pc2 := 14) dX5_remember_13 rfl rfl ?_
        refine r_getf (pc2 := 17) dX5_remember_14 rfl fl_5_7 (by assumption) (by assumption) (by rfl) ?_
        refine r_iload_n (pc2 := 18) dX5_remember_17 rfl rfl ?_
        refine r_iald (pc2 := 19) dX5_remember_18 rfl (by decide) (by assumption) (by assumption) (by omega) (by omega) (by omega) ?_
        refine r_iast (pc2 := 20) dX5_remember_19 rfl (by assumption) (by assumption) (by omega) (by omega) (by omega) ?_
        rw [wst_wst, preF_step hk0.1]
        refine r_iinc_1 (pc2 := 23) dX5_remember_20 rfl rfl ?_
        refine r_goto (tgt := 2) dX5_remember_23 (by decide) ?_
        exact ih (k + 1) (by omega)
  refine r_iconst (pc2 := 1) dX5_remember_0 rfl ?_
  refine r_ist_1 (pc2 := 2) dX5_remember_1 rfl rfl ?_
  have := loop 62 0 (by omega)
  rw [preF_0, wst_id hKe] at this
  exact this

def oaF (v p : Int) : Nat → Int := fun j => if (j : Int) - 7 < p then ((j : Int) - 7) % v else 0
theorem oaF_t {v p k : Int} (hk : 0 ≤ k) (h : k < p) : oaF v p (7 + k).toNat = k % v := by
  unfold oaF
  rw [show (((7 + k).toNat : Nat) : Int) - 7 = k by omega, if_pos h]
theorem oaF_f {v p k : Int} (hk : 0 ≤ k) (h : p ≤ k) : oaF v p (7 + k).toNat = 0 := by
  unfold oaF
  rw [show (((7 + k).toNat : Nat) : Int) - 7 = k by omega, if_neg (by omega)]
theorem oaF_st {v p k : Int} (g : Nat → Int) (hk : 0 ≤ k) (h : k < p) : updZ (rgF 7 k (oaF v p) g) (7 + k).toNat (k % v) = rgF 7 (k + 1) (oaF v p) g := by
  rw [← rgF_step (by omega) hk, oaF_t hk h]
theorem oaF_sf {v p k : Int} (g : Nat → Int) (hk : 0 ≤ k) (h : p ≤ k) : updZ (rgF 7 k (oaF v p) g) (7 + k).toNat 0 = rgF 7 (k + 1) (oaF v p) g := by
  rw [← rgF_step (by omega) hk, oaF_f hk h]

set_option maxHeartbeats 4000000 in
theorem m_ordersAsFirst (w : av_W) (h42 : 42 ≤ w.1) (hl tk tl sp rv rs oa : Int) (hO : w.2.2 33 = mdO hl tk tl sp rv rs oa) (g : Nat → Int) (hA : w.2.2 34 = arO 61 g) (hGR : GR g) : fn MX5_ordersAsFirst [.ref 33] w none (wst w 34 (arO 61 (rgF 7 6 (oaF (g 0) (g 1)) g))) := by
  have k33 : 33 < w.1 := by omega
  have k34 : 34 < w.1 := by omega
  have k35 : 35 < w.1 := by omega
  have k36 : 36 < w.1 := by omega
  obtain ⟨g0, g1, g2, g3⟩ := id hGR
  show rn MX5_ordersAsFirst 0 [some (.ref 33), none] [] w (fun r' w' => r' = none ∧ w' = (wst w 34 (arO 61 (rgF 7 6 (oaF (g 0) (g 1)) g))))
  have loop : ∀ (n : Nat) (k : Int), (0 ≤ k ∧ k ≤ 6 ∧ 7 ≤ k + n) → rn MX5_ordersAsFirst 2 [some (.ref 33), some (.int (iN k))] [] (wst w 34 (arO 61 (rgF 7 k (oaF (g 0) (g 1)) g))) (fun r' w' => r' = none ∧ w' = (wst w 34 (arO 61 (rgF 7 6 (oaF (g 0) (g 1)) g)))) := by
    intro n
    induction n with
    | zero =>
      intro k hk0
      exfalso
      omega
    | succ n ih =>
      intro k hk0
      have q33 : 33 < (wst w 34 (arO 61 (rgF 7 k (oaF (g 0) (g 1)) g))).1 := k33
      have q33w : (wst w 34 (arO 61 (rgF 7 k (oaF (g 0) (g 1)) g))).2.2 33 = mdO hl tk tl sp rv rs oa := by rw [wst_ne (by decide)]; exact hO
      have q34 : 34 < (wst w 34 (arO 61 (rgF 7 k (oaF (g 0) (g 1)) g))).1 := k34
      have q34w : (wst w 34 (arO 61 (rgF 7 k (oaF (g 0) (g 1)) g))).2.2 34 = arO 61 (rgF 7 k (oaF (g 0) (g 1)) g) := wst_self
      refine r_iload_n (pc2 := 3) dX5_ordersAsFirst_2 rfl rfl ?_
      refine r_bipush (pc2 := 5) dX5_ordersAsFirst_3 rfl (by decide) ?_
      refine r_icmp_ge (pc2 := 8) (tgt := 45) dX5_ordersAsFirst_5 rfl (by decide) (by omega) (by omega) (fun h5 => ?_) (fun h5 => ?_)
      · have h6 : k = 6 := by omega
        subst h6
        refine r_retv dX5_ordersAsFirst_45 rfl ?_
        exact ⟨rfl, rfl⟩
      · refine r_aload_n (pc2 := 9) dX5_ordersAsFirst_8 rfl rfl ?_
        refine r_getf (pc2 := 12) dX5_ordersAsFirst_9 rfl fl_5_7 (by assumption) (by assumption) (by rfl) ?_
        refine r_bipush (pc2 := 14) dX5_ordersAsFirst_12 rfl (by decide) ?_
        refine r_iload_n (pc2 := 15) dX5_ordersAsFirst_14 rfl rfl ?_
        refine r_iadd (pc2 := 16) dX5_ordersAsFirst_15 rfl ?_
        refine r_iload_n (pc2 := 17) dX5_ordersAsFirst_16 rfl rfl ?_
        refine r_aload_n (pc2 := 18) dX5_ordersAsFirst_17 rfl rfl ?_
        refine r_getf (pc2 := 21) dX5_ordersAsFirst_18 rfl fl_5_7 (by assumption) (by assumption) (by rfl) ?_
        refine r_iconst (pc2 := 22) dX5_ordersAsFirst_21 rfl ?_
        refine r_ialk (k := 1) (pc2 := 23) dX5_ordersAsFirst_22 rfl (by decide) (by assumption) (by assumption) (by omega) (by omega) (by omega) (by decide) ?_
        rw [rgF_out (by omega)]
        refine r_icmp_ge (pc2 := 26) (tgt := 37) dX5_ordersAsFirst_23 rfl (by decide) (by omega) (by omega) (fun h23 => ?_) (fun h23 => ?_)
        · refine r_iconst (pc2 := 38) dX5_ordersAsFirst_37 rfl ?_
          refine r_iast (pc2 := 39) dX5_ordersAsFirst_38 rfl (by assumption) (by assumption) (by omega) (by omega) (by omega) ?_
          first
            | rw [wst_wst, Int.tmod_eq_emod_of_nonneg (by omega), oaF_st g (by omega) (by omega)]
            | rw [wst_wst, oaF_sf g (by omega) (by omega)]
          refine r_iinc_1 (pc2 := 42) dX5_ordersAsFirst_39 rfl rfl ?_
          refine r_goto (tgt := 2) dX5_ordersAsFirst_42 (by decide) ?_
          exact ih (k + 1) (by omega)
        · refine r_iload_n (pc2 := 27) dX5_ordersAsFirst_26 rfl rfl ?_
          refine r_aload_n (pc2 := 28) dX5_ordersAsFirst_27 rfl rfl ?_
          refine r_getf (pc2 := 31) dX5_ordersAsFirst_28 rfl fl_5_7 (by assumption) (by assumption) (by rfl) ?_
          refine r_iconst (pc2 := 32) dX5_ordersAsFirst_31 rfl ?_
          refine r_ialk (k := 0) (pc2 := 33) dX5_ordersAsFirst_32 rfl (by decide) (by assumption) (by assumption) (by omega) (by omega) (by omega) (by decide) ?_
          rw [rgF_out (by omega)]
          refine r_irem (pc2 := 34) dX5_ordersAsFirst_33 rfl (by omega) (by omega) (by omega) (by omega) ?_
          refine r_goto (tgt := 38) dX5_ordersAsFirst_34 (by decide) ?_
          refine r_iast (pc2 := 39) dX5_ordersAsFirst_38 rfl (by assumption) (by assumption) (by omega) (by omega) (by omega) ?_
          first
            | rw [wst_wst, Int.tmod_eq_emod_of_nonneg (by omega), oaF_st g (by omega) (by omega)]
            | rw [wst_wst, oaF_sf g (by omega) (by omega)]
          refine r_iinc_1 (pc2 := 42) dX5_ordersAsFirst_39 rfl rfl ?_
          refine r_goto (tgt := 2) dX5_ordersAsFirst_42 (by decide) ?_
          exact ih (k + 1) (by omega)
  refine r_iconst (pc2 := 1) dX5_ordersAsFirst_0 rfl ?_
  refine r_ist_1 (pc2 := 2) dX5_ordersAsFirst_1 rfl rfl ?_
  have := loop 7 0 (by omega)
  rw [rgF_0, wst_id hA] at this
  exact this
