/-! the reference: acted -/
theorem wst_in {w : av_W} {a b : Nat} {e f e2 : av_E} (h : a ≠ b) : wst (wst (wst w a e) b f) a e2 = wst (wst w a e2) b f := by
  rw [wst_comm (wst w a e) f e2 (Ne.symm h), wst_wst]
def keF (n2 : Int) (ke : Nat → Int) : Nat → Int := fun j => ke ((j : Int) - 61 * n2).toNat
theorem keF_st {n2 k : Int} {ke H2 : Nat → Int} (hn : 0 ≤ n2) (hk : 0 ≤ k) : updZ (rgF (61 * n2) k (keF n2 ke) H2) (61 * n2 + k).toNat (ke k.toNat) = rgF (61 * n2) (k + 1) (keF n2 ke) H2 := by
  rw [← rgF_step (by omega) hk]
  congr 1
  unfold keF
  rw [show (((61 * n2 + k).toNat : Nat) : Int) - 61 * n2 = k by omega]
def shH (H : Nat → Int) : Nat → Int := fun j => H (j + 61)
theorem shH_st {k : Int} {H : Nat → Int} (hk : 0 ≤ k) : updZ (preF k (shH H) H) k.toNat (preF k (shH H) H (k + 61).toNat) = preF (k + 1) (shH H) H := by
  rw [← preF_step hk, preF_ge (by omega)]
  congr 1
  unfold shH
  rw [show (k + 61).toNat = k.toNat + 61 by omega]

set_option maxHeartbeats 4000000 in
theorem m_acted (w : av_W) (h42 : 42 ≤ w.1) (hl tk tl sp rv rs oa : Int) (hO : w.2.2 33 = mdO hl tk tl sp rv rs oa) (g : Nat → Int) (hA : w.2.2 34 = arO 61 g) (ke : Nat → Int) (hKe : w.2.2 35 = arO 61 ke) (H : Nat → Int) (hH : w.2.2 36 = arO 244 H) (hhl : 0 ≤ hl ∧ hl ≤ 4) (x : Int) : cl MX5_acted [.ref 33, .int (iN x)] w (fun r' w' => r' = some (.int (iN x)) ∧ (hl ≠ 4 → w' = (wst (wst w 36 (arO 244 (rgF (61 * hl) 61 (keF hl ke) H))) 33 (mdO (hl + 1) tk tl sp rv rs oa))) ∧ (hl = 4 → w' = (wst (wst w 36 (arO 244 (rgF (61 * 3) 61 (keF 3 ke) (preF 183 (shH H) H)))) 33 (mdO (3 + 1) tk tl sp rv rs oa)))) := by
  have k33 : 33 < w.1 := by omega
  have k34 : 34 < w.1 := by omega
  have k35 : 35 < w.1 := by omega
  have k36 : 36 < w.1 := by omega
  show rn MX5_acted 0 [some (.ref 33), some (.int (iN x)), none] [] w (fun r' w' => r' = some (.int (iN x)) ∧ (hl ≠ 4 → w' = (wst (wst w 36 (arO 244 (rgF (61 * hl) 61 (keF hl ke) H))) 33 (mdO (hl + 1) tk tl sp rv rs oa))) ∧ (hl = 4 → w' = (wst (wst w 36 (arO 244 (rgF (61 * 3) 61 (keF 3 ke) (preF 183 (shH H) H)))) 33 (mdO (3 + 1) tk tl sp rv rs oa))))
  have lb : ∀ (m : Nat) (k : Int) (n2 : Int) (H2 : Nat → Int), (0 ≤ k ∧ k ≤ 61 ∧ 62 ≤ k + m) → (0 ≤ n2 ∧ n2 ≤ 3) → rn MX5_acted 50 [some (.ref 33), some (.int (iN x)), some (.int (iN k))] [] (wst (wst w 36 (arO 244 (rgF (61 * n2) k (keF n2 ke) H2))) 33 (mdO n2 tk tl sp rv rs oa)) (fun r' w' => r' = some (.int (iN x)) ∧ w' = (wst (wst w 36 (arO 244 (rgF (61 * n2) 61 (keF n2 ke) H2))) 33 (mdO (n2 + 1) tk tl sp rv rs oa))) := by
    intro m
    induction m with
    | zero =>
      intro k n2 H2 hk0 hk1
      exfalso
      omega
    | succ m ih =>
      intro k n2 H2 hk0 hk1
      have q33 : 33 < (wst (wst w 36 (arO 244 (rgF (61 * n2) k (keF n2 ke) H2))) 33 (mdO n2 tk tl sp rv rs oa)).1 := k33
      have q33w : (wst (wst w 36 (arO 244 (rgF (61 * n2) k (keF n2 ke) H2))) 33 (mdO n2 tk tl sp rv rs oa)).2.2 33 = (mdO n2 tk tl sp rv rs oa) := wst_self
      have q36 : 36 < (wst (wst w 36 (arO 244 (rgF (61 * n2) k (keF n2 ke) H2))) 33 (mdO n2 tk tl sp rv rs oa)).1 := k36
      have q36w : (wst (wst w 36 (arO 244 (rgF (61 * n2) k (keF n2 ke) H2))) 33 (mdO n2 tk tl sp rv rs oa)).2.2 36 = arO 244 (rgF (61 * n2) k (keF n2 ke) H2) := by rw [wst_ne (by decide)]; exact wst_self
      have q35 : 35 < (wst (wst w 36 (arO 244 (rgF (61 * n2) k (keF n2 ke) H2))) 33 (mdO n2 tk tl sp rv rs oa)).1 := k35
      have q35w : (wst (wst w 36 (arO 244 (rgF (61 * n2) k (keF n2 ke) H2))) 33 (mdO n2 tk tl sp rv rs oa)).2.2 35 = arO 61 ke := by rw [wst_ne (by decide), wst_ne (by decide)]; exact hKe
      refine r_iload_n (pc2 := 51) dX5_acted_50 rfl rfl ?_
      refine r_bipush (pc2 := 53) dX5_acted_51 rfl (by decide) ?_
      refine r_icmp_ge (pc2 := 56) (tgt := 82) dX5_acted_53 rfl (by decide) (by omega) (by omega) (fun h53 => ?_) (fun h53 => ?_)
      · have h6 : k = 61 := by omega
        subst h6
        refine r_aload_n (pc2 := 83) dX5_acted_82 rfl rfl ?_
        refine r_dup (pc2 := 84) dX5_acted_83 rfl rfl ?_
        refine r_getf (pc2 := 87) dX5_acted_84 rfl fl_5_37 (by assumption) (by assumption) (by rfl) ?_
        refine r_iconst (pc2 := 88) dX5_acted_87 rfl ?_
        refine r_iadd (pc2 := 89) dX5_acted_88 rfl ?_
        refine r_putf (pc2 := 92) dX5_acted_89 rfl fl_5_37 (by assumption) (by assumption) (by exact Nat.le_of_ble_eq_true rfl) (by rfl) (by rfl) (by rfl) ?_
        rw [wst_wst]
        refine r_iload_n (pc2 := 93) dX5_acted_92 rfl rfl ?_
        refine r_ret dX5_acted_93 rfl ?_
        exact ⟨rfl, rfl⟩
      · refine r_aload_n (pc2 := 57) dX5_acted_56 rfl rfl ?_
        refine r_getf (pc2 := 60) dX5_acted_57 rfl fl_5_16 (by assumption) (by assumption) (by rfl) ?_
        refine r_bipush (pc2 := 62) dX5_acted_60 rfl (by decide) ?_
        refine r_aload_n (pc2 := 63) dX5_acted_62 rfl rfl ?_
        refine r_getf (pc2 := 66) dX5_acted_63 rfl fl_5_37 (by assumption) (by assumption) (by rfl) ?_
        refine r_imul (pc2 := 67) dX5_acted_66 rfl ?_
        refine r_iload_n (pc2 := 68) dX5_acted_67 rfl rfl ?_
        refine r_iadd (pc2 := 69) dX5_acted_68 rfl ?_
        refine r_aload_n (pc2 := 70) dX5_acted_69 rfl rfl ?_
        refine r_getf (pc2 := 73) dX5_acted_70 rfl fl_5_13 (by assumption) (by assumption) (by rfl) ?_
        refine r_iload_n (pc2 := 74) dX5_acted_73 rfl rfl ?_
        refine r_iald (pc2 := 75) dX5_acted_74 rfl (by decide) (by assumption) (by assumption) (by omega) (by omega) (by omega) ?_
        refine r_iast (pc2 := 76) dX5_acted_75 rfl (by assumption) (by assumption) (by omega) (by omega) (by omega) ?_
        rw [wst_in (by decide), keF_st (by omega) (by omega)]
        refine r_iinc_2 (pc2 := 79) dX5_acted_76 rfl rfl ?_
        refine r_goto (tgt := 50) dX5_acted_79 (by decide) ?_
        exact ih (k + 1) n2 H2 (by omega) (by omega)
  have la : ∀ (m : Nat) (k : Int), (0 ≤ k ∧ k ≤ 183 ∧ 184 ≤ k + m) → (hl = 4) → rn MX5_acted 10 [some (.ref 33), some (.int (iN x)), some (.int (iN k))] [] (wst w 36 (arO 244 (preF k (shH H) H))) (fun r' w' => r' = some (.int (iN x)) ∧ (hl ≠ 4 → w' = (wst (wst w 36 (arO 244 (rgF (61 * hl) 61 (keF hl ke) H))) 33 (mdO (hl + 1) tk tl sp rv rs oa))) ∧ (hl = 4 → w' = (wst (wst w 36 (arO 244 (rgF (61 * 3) 61 (keF 3 ke) (preF 183 (shH H) H)))) 33 (mdO (3 + 1) tk tl sp rv rs oa)))) := by
    intro m
    induction m with
    | zero =>
      intro k hk0 hk1
      exfalso
      omega
    | succ m ih =>
      intro k hk0 hk1
      have q33 : 33 < (wst w 36 (arO 244 (preF k (shH H) H))).1 := k33
      have q33w : (wst w 36 (arO 244 (preF k (shH H) H))).2.2 33 = (mdO hl tk tl sp rv rs oa) := by rw [wst_ne (by decide)]; exact hO
      have q36 : 36 < (wst w 36 (arO 244 (preF k (shH H) H))).1 := k36
      have q36w : (wst w 36 (arO 244 (preF k (shH H) H))).2.2 36 = arO 244 (preF k (shH H) H) := wst_self
      have q35 : 35 < (wst w 36 (arO 244 (preF k (shH H) H))).1 := k35
      have q35w : (wst w 36 (arO 244 (preF k (shH H) H))).2.2 35 = arO 61 ke := by rw [wst_ne (by decide)]; exact hKe
      refine r_iload_n (pc2 := 11) dX5_acted_10 rfl rfl ?_
      refine r_sipush (pc2 := 14) dX5_acted_11 rfl (by decide) ?_
      refine r_icmp_ge (pc2 := 17) (tgt := 38) dX5_acted_14 rfl (by decide) (by omega) (by omega) (fun h14 => ?_) (fun h14 => ?_)
      · have h6 : k = 183 := by omega
        subst h6
        refine r_aload_n (pc2 := 39) dX5_acted_38 rfl rfl ?_
        refine r_dup (pc2 := 40) dX5_acted_39 rfl rfl ?_
        refine r_getf (pc2 := 43) dX5_acted_40 rfl fl_5_37 (by assumption) (by assumption) (by rfl) ?_
        refine r_iconst (pc2 := 44) dX5_acted_43 rfl ?_
        refine r_isub (pc2 := 45) dX5_acted_44 rfl ?_
        refine r_putf (pc2 := 48) dX5_acted_45 rfl fl_5_37 (by assumption) (by assumption) (by exact Nat.le_of_ble_eq_true rfl) (by rfl) (by rfl) (by rfl) ?_
        refine r_iconst (pc2 := 49) dX5_acted_48 rfl ?_
        refine r_ist_2 (pc2 := 50) dX5_acted_49 rfl rfl ?_
        have h3 : hl - 1 = 3 := by omega
        show rn _ _ _ _ (wst (wst w 36 (arO 244 (preF 183 (shH H) H))) 33 (mdO (hl - 1) tk tl sp rv rs oa)) _
        rw [h3]
        have q := lb 62 0 3 (preF 183 (shH H) H) (by omega) (by omega)
        rw [rgF_0] at q
        refine q.imp (fun r2 w2 q2 => ⟨q2.1, fun q3 => absurd hk1 q3, fun _ => q2.2⟩)
      · refine r_aload_n (pc2 := 18) dX5_acted_17 rfl rfl ?_
        refine r_getf (pc2 := 21) dX5_acted_18 rfl fl_5_16 (by assumption) (by assumption) (by rfl) ?_
        refine r_iload_n (pc2 := 22) dX5_acted_21 rfl rfl ?_
        refine r_aload_n (pc2 := 23) dX5_acted_22 rfl rfl ?_
        refine r_getf (pc2 := 26) dX5_acted_23 rfl fl_5_16 (by assumption) (by assumption) (by rfl) ?_
        refine r_iload_n (pc2 := 27) dX5_acted_26 rfl rfl ?_
        refine r_bipush (pc2 := 29) dX5_acted_27 rfl (by decide) ?_
        refine r_iadd (pc2 := 30) dX5_acted_29 rfl ?_
        refine r_iald (pc2 := 31) dX5_acted_30 rfl (by decide) (by assumption) (by assumption) (by omega) (by omega) (by omega) ?_
        refine r_iast (pc2 := 32) dX5_acted_31 rfl (by assumption) (by assumption) (by omega) (by omega) (by omega) ?_
        rw [wst_wst, shH_st hk0.1]
        refine r_iinc_2 (pc2 := 35) dX5_acted_32 rfl rfl ?_
        refine r_goto (tgt := 10) dX5_acted_35 (by decide) ?_
        exact ih (k + 1) (by omega) hk1
  refine r_aload_n (pc2 := 1) dX5_acted_0 rfl rfl ?_
  refine r_getf (pc2 := 4) dX5_acted_1 rfl fl_5_37 (by assumption) (by assumption) (by rfl) ?_
  refine r_iconst (pc2 := 5) dX5_acted_4 rfl ?_
  refine r_icmp_ne (pc2 := 8) (tgt := 48) dX5_acted_5 rfl (by decide) (by omega) (by omega) (fun h5 => ?_) (fun h5 => ?_)
  · refine r_iconst (pc2 := 49) dX5_acted_48 rfl ?_
    refine r_ist_2 (pc2 := 50) dX5_acted_49 rfl rfl ?_
    have q := lb 62 0 hl H (by omega) (by omega)
    rw [rgF_0, wst_id hH, wst_id hO] at q
    refine q.imp (fun r2 w2 q2 => ⟨q2.1, fun _ => q2.2, fun q3 => absurd q3 (by omega)⟩)
  · refine r_iconst (pc2 := 9) dX5_acted_8 rfl ?_
    refine r_ist_2 (pc2 := 10) dX5_acted_9 rfl rfl ?_
    have q := la 184 0 (by omega) (by omega)
    rw [preF_0, wst_id hH] at q
    exact q
