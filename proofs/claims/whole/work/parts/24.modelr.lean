/-! the reference: what is read of its slots -/
def SoR (so : Nat → Int) : Prop := ∀ j, j < 228 → so j = -105 ∨ (0 ≤ so j ∧ so j ≤ 5)
def mwT (g so : Nat → Int) (an : Int) : Nat → Int
  | 0 => -105
  | n + 1 => if msH g so an n = 12 then n else mwT g so an n
def mmF (g so : Nat → Int) (an : Int) : Nat → Int × Int
  | 0 => (-105, 0)
  | n + 1 => if (mmF g so an n).2 < msH g so an n then (n, msH g so an n) else mmF g so an n
def mcF (g so : Nat → Int) (x : Int) : Nat → Int
  | 0 => -9
  | n + 1 => if msH g so (mcF g so x n) x < msH g so ((n : Int) - 8) x ∨ (msH g so ((n : Int) - 8) x = msH g so (mcF g so x n) x ∧ mgA g so ((n : Int) - 8) < mgA g so (mcF g so x n)) then (n : Int) - 8 else mcF g so x n
theorem mwT_rg (g so : Nat → Int) (an : Int) (n : Nat) : -105 ≤ mwT g so an n ∧ mwT g so an n ≤ n := by
  induction n with
  | zero => simp [mwT]
  | succ n ih =>
    unfold mwT
    split <;> omega
theorem mmF_rg (g so : Nat → Int) (an : Int) (n : Nat) : (-105 ≤ (mmF g so an n).1 ∧ (mmF g so an n).1 ≤ n) ∧ (0 ≤ (mmF g so an n).2 ∧ (mmF g so an n).2 ≤ 12) := by
  induction n with
  | zero => simp [mmF]
  | succ n ih =>
    unfold mmF
    have := msH_rg g so an n
    split
    · dsimp only
      omega
    · omega
theorem mcF_rg (g so : Nat → Int) (x : Int) (n : Nat) (hn : n ≤ 18) : -9 ≤ mcF g so x n ∧ mcF g so x n ≤ 9 := by
  induction n with
  | zero => simp [mcF]
  | succ n ih =>
    have := ih (by omega)
    unfold mcF
    split <;> omega

set_option maxHeartbeats 4000000 in
theorem m_viewSeen (w : av_W) (h42 : 42 ≤ w.1) (hl tk tl sp rv rs oa : Int) (hO : w.2.2 33 = mdO hl tk tl sp rv rs oa) (g : Nat → Int) (hA : w.2.2 34 = arO 61 g) (hGR : GR g) (hGS : GS g) (so : Nat → Int) (hS : w.2.2 38 = arO 228 so) (hSo : SoR so) (x y : Int) (hx : -9 ≤ x ∧ x ≤ 9) (hy : 0 ≤ y ∧ y ≤ 11) : fn MX5_viewSeen [.ref 33, .int (iN x), .int (iN y)] w (some (.int (iN (mS g so x y)))) w := by
  have k33 : 33 < w.1 := by omega
  have k34 : 34 < w.1 := by omega
  have k38 : 38 < w.1 := by omega
  obtain ⟨hv, hp, hsh, hln⟩ := id hGR
  try unfold RG at *
  try unfold RLg at *
  have hsj := hSo (12 * (x + 9) + y).toNat (by omega)
  show rn MX5_viewSeen 0 [some (.ref 33), some (.int (iN x)), some (.int (iN y)), none] [] w _
  refine r_aload_n (pc2 := 1) dX5_viewSeen_0 rfl rfl ?_
  refine r_getf (pc2 := 4) dX5_viewSeen_1 rfl fl_5_22 (by assumption) (by assumption) (by rfl) ?_
  refine r_bipush (pc2 := 6) dX5_viewSeen_4 rfl (by decide) ?_
  refine r_iload_n (pc2 := 7) dX5_viewSeen_6 rfl rfl ?_
  refine r_bipush (pc2 := 9) dX5_viewSeen_7 rfl (by decide) ?_
  refine r_iadd (pc2 := 10) dX5_viewSeen_9 rfl ?_
  refine r_imul (pc2 := 11) dX5_viewSeen_10 rfl ?_
  refine r_iload_n (pc2 := 12) dX5_viewSeen_11 rfl rfl ?_
  refine r_iadd (pc2 := 13) dX5_viewSeen_12 rfl ?_
  refine r_iald (pc2 := 14) dX5_viewSeen_13 rfl (by decide) (by assumption) (by assumption) (by omega) (by omega) (by omega) ?_
  refine r_ist_3 (pc2 := 15) dX5_viewSeen_14 rfl rfl ?_
  refine r_iload_n (pc2 := 16) dX5_viewSeen_15 rfl rfl ?_
  refine r_bipush (pc2 := 18) dX5_viewSeen_16 rfl (by decide) ?_
  refine r_icmp_ne (pc2 := 21) (tgt := 26) dX5_viewSeen_18 rfl (by decide) (by omega) (by omega) (fun h18 => ?_) (fun h18 => ?_)
  · refine r_aload_n (pc2 := 27) dX5_viewSeen_26 rfl rfl ?_
    refine r_getf (pc2 := 30) dX5_viewSeen_27 rfl fl_5_7 (by assumption) (by assumption) (by rfl) ?_
    refine r_bipush (pc2 := 32) dX5_viewSeen_30 rfl (by decide) ?_
    refine r_iload_n (pc2 := 33) dX5_viewSeen_32 rfl rfl ?_
    refine r_iadd (pc2 := 34) dX5_viewSeen_33 rfl ?_
    refine r_iald (pc2 := 35) dX5_viewSeen_34 rfl (by decide) (by assumption) (by assumption) (by omega) (by omega) (by omega) ?_
    refine r_ret dX5_viewSeen_35 rfl ?_
    exact ⟨by unfold mS; first | rw [if_pos (by omega)] | rw [if_neg (by omega)], rfl⟩
  · refine r_bipush (pc2 := 23) dX5_viewSeen_21 rfl (by decide) ?_
    refine r_goto (tgt := 35) dX5_viewSeen_23 (by decide) ?_
    refine r_ret dX5_viewSeen_35 rfl ?_
    exact ⟨by unfold mS; first | rw [if_pos (by omega)] | rw [if_neg (by omega)], rfl⟩

set_option maxHeartbeats 4000000 in
theorem m_isGhost (w : av_W) (h42 : 42 ≤ w.1) (hl tk tl sp rv rs oa : Int) (hO : w.2.2 33 = mdO hl tk tl sp rv rs oa) (g : Nat → Int) (hA : w.2.2 34 = arO 61 g) (hGR : GR g) (hGS : GS g) (so : Nat → Int) (hS : w.2.2 38 = arO 228 so) (hSo : SoR so) (x y : Int) (hx : -9 ≤ x ∧ x ≤ 9) (hy : 0 ≤ y ∧ y ≤ 11) : fn MX5_isGhost [.ref 33, .int (iN x), .int (iN y)] w (some (.int (iN (bz (mgC g so x y))))) w := by
  have k33 : 33 < w.1 := by omega
  have k34 : 34 < w.1 := by omega
  have k38 : 38 < w.1 := by omega
  obtain ⟨hv, hp, hsh, hln⟩ := id hGR
  try unfold RG at *
  try unfold RLg at *
  have g0 := mS_rg hGS hSo (an := x) (r := y) (by omega)
  show rn MX5_isGhost 0 [some (.ref 33), some (.int (iN x)), some (.int (iN y)), none] [] w _
  refine r_aload_n (pc2 := 1) dX5_isGhost_0 rfl rfl ?_
  refine r_iload_n (pc2 := 2) dX5_isGhost_1 rfl rfl ?_
  refine r_iload_n (pc2 := 3) dX5_isGhost_2 rfl rfl ?_
  refine r_callv_2 (pc2 := 6) dX5_isGhost_3 rfl rs_5_60 rfl (by decide) rfl (Nat.le_of_ble_eq_true rfl) (Nat.le_of_ble_eq_true rfl) (by assumption) (by assumption) (m_viewSeen _ h42 hl tk tl sp rv rs oa hO g hA hGR hGS so hS hSo x y (by omega) (by omega)) (fun r_ w_ h_ => ?_)
  rw [h_.1, h_.2]
  clear h_ w_ r_
  refine ⟨rfl, ?_⟩
  refine r_ist_3 (pc2 := 7) dX5_isGhost_6 rfl rfl ?_
  refine r_iload_n (pc2 := 8) dX5_isGhost_7 rfl rfl ?_
  refine r_if_le (pc2 := 11) (tgt := 23) dX5_isGhost_8 rfl (by decide) (by omega) (fun h8 => ?_) (fun h8 => ?_)
  · refine r_iload_n (pc2 := 24) dX5_isGhost_23 rfl rfl ?_
    refine r_bipush (pc2 := 26) dX5_isGhost_24 rfl (by decide) ?_
    refine r_icmp_ge (pc2 := 29) (tgt := 45) dX5_isGhost_26 rfl (by decide) (by omega) (by omega) (fun h26 => ?_) (fun h26 => ?_)
    · refine r_iconst (pc2 := 46) dX5_isGhost_45 rfl ?_
      refine r_retb dX5_isGhost_46 rfl (by first | exact Or.inl rfl | exact Or.inr rfl | exact bz_01) ?_
      exact ⟨by first | (exfalso; omega) | rw [bz_t (by unfold mgC; omega)] | rw [bz_f (by unfold mgC; omega)], rfl⟩
    · refine r_aload_n (pc2 := 30) dX5_isGhost_29 rfl rfl ?_
      refine r_iload_n (pc2 := 31) dX5_isGhost_30 rfl rfl ?_
      refine r_iload_n (pc2 := 32) dX5_isGhost_31 rfl rfl ?_
      refine r_iconst (pc2 := 33) dX5_isGhost_32 rfl ?_
      refine r_iadd (pc2 := 34) dX5_isGhost_33 rfl ?_
      refine r_callv_2 (pc2 := 37) dX5_isGhost_34 rfl rs_5_60 rfl (by decide) rfl (Nat.le_of_ble_eq_true rfl) (Nat.le_of_ble_eq_true rfl) (by assumption) (by assumption) (m_viewSeen _ h42 hl tk tl sp rv rs oa hO g hA hGR hGS so hS hSo x (y + 1) (by omega) (by omega)) (fun r_ w_ h_ => ?_)
      rw [h_.1, h_.2]
      clear h_ w_ r_
      refine ⟨rfl, ?_⟩
      refine r_iload_n (pc2 := 38) dX5_isGhost_37 rfl rfl ?_
      have g2 := mS_rg hGS hSo (an := x) (r := y + 1) (by omega)
      refine r_icmp_eq (pc2 := 41) (tgt := 45) dX5_isGhost_38 rfl (by decide) (by omega) (by omega) (fun h38 => ?_) (fun h38 => ?_)
      · refine r_iconst (pc2 := 46) dX5_isGhost_45 rfl ?_
        refine r_retb dX5_isGhost_46 rfl (by first | exact Or.inl rfl | exact Or.inr rfl | exact bz_01) ?_
        exact ⟨by first | (exfalso; omega) | rw [bz_t (by unfold mgC; omega)] | rw [bz_f (by unfold mgC; omega)], rfl⟩
      · refine r_iconst (pc2 := 42) dX5_isGhost_41 rfl ?_
        refine r_goto (tgt := 46) dX5_isGhost_42 (by decide) ?_
        refine r_retb dX5_isGhost_46 rfl (by first | exact Or.inl rfl | exact Or.inr rfl | exact bz_01) ?_
        exact ⟨by first | (exfalso; omega) | rw [bz_t (by unfold mgC; omega)] | rw [bz_f (by unfold mgC; omega)], rfl⟩
  · refine r_aload_n (pc2 := 12) dX5_isGhost_11 rfl rfl ?_
    refine r_iload_n (pc2 := 13) dX5_isGhost_12 rfl rfl ?_
    refine r_iload_n (pc2 := 14) dX5_isGhost_13 rfl rfl ?_
    refine r_iconst (pc2 := 15) dX5_isGhost_14 rfl ?_
    refine r_isub (pc2 := 16) dX5_isGhost_15 rfl ?_
    refine r_callv_2 (pc2 := 19) dX5_isGhost_16 rfl rs_5_60 rfl (by decide) rfl (Nat.le_of_ble_eq_true rfl) (Nat.le_of_ble_eq_true rfl) (by assumption) (by assumption) (m_viewSeen _ h42 hl tk tl sp rv rs oa hO g hA hGR hGS so hS hSo x (y - 1) (by omega) (by omega)) (fun r_ w_ h_ => ?_)
    rw [h_.1, h_.2]
    clear h_ w_ r_
    refine ⟨rfl, ?_⟩
    refine r_iload_n (pc2 := 20) dX5_isGhost_19 rfl rfl ?_
    have g1 := mS_rg hGS hSo (an := x) (r := y - 1) (by omega)
    refine r_icmp_ne (pc2 := 23) (tgt := 41) dX5_isGhost_20 rfl (by decide) (by omega) (by omega) (fun h20 => ?_) (fun h20 => ?_)
    · refine r_iconst (pc2 := 42) dX5_isGhost_41 rfl ?_
      refine r_goto (tgt := 46) dX5_isGhost_42 (by decide) ?_
      refine r_retb dX5_isGhost_46 rfl (by first | exact Or.inl rfl | exact Or.inr rfl | exact bz_01) ?_
      exact ⟨by first | (exfalso; omega) | rw [bz_t (by unfold mgC; omega)] | rw [bz_f (by unfold mgC; omega)], rfl⟩
    · refine r_iload_n (pc2 := 24) dX5_isGhost_23 rfl rfl ?_
      refine r_bipush (pc2 := 26) dX5_isGhost_24 rfl (by decide) ?_
      refine r_icmp_ge (pc2 := 29) (tgt := 45) dX5_isGhost_26 rfl (by decide) (by omega) (by omega) (fun h26 => ?_) (fun h26 => ?_)
      · refine r_iconst (pc2 := 46) dX5_isGhost_45 rfl ?_
        refine r_retb dX5_isGhost_46 rfl (by first | exact Or.inl rfl | exact Or.inr rfl | exact bz_01) ?_
        exact ⟨by first | (exfalso; omega) | rw [bz_t (by unfold mgC; omega)] | rw [bz_f (by unfold mgC; omega)], rfl⟩
      · refine r_aload_n (pc2 := 30) dX5_isGhost_29 rfl rfl ?_
        refine r_iload_n (pc2 := 31) dX5_isGhost_30 rfl rfl ?_
        refine r_iload_n (pc2 := 32) dX5_isGhost_31 rfl rfl ?_
        refine r_iconst (pc2 := 33) dX5_isGhost_32 rfl ?_
        refine r_iadd (pc2 := 34) dX5_isGhost_33 rfl ?_
        refine r_callv_2 (pc2 := 37) dX5_isGhost_34 rfl rs_5_60 rfl (by decide) rfl (Nat.le_of_ble_eq_true rfl) (Nat.le_of_ble_eq_true rfl) (by assumption) (by assumption) (m_viewSeen _ h42 hl tk tl sp rv rs oa hO g hA hGR hGS so hS hSo x (y + 1) (by omega) (by omega)) (fun r_ w_ h_ => ?_)
        rw [h_.1, h_.2]
        clear h_ w_ r_
        refine ⟨rfl, ?_⟩
        refine r_iload_n (pc2 := 38) dX5_isGhost_37 rfl rfl ?_
        have g2 := mS_rg hGS hSo (an := x) (r := y + 1) (by omega)
        refine r_icmp_eq (pc2 := 41) (tgt := 45) dX5_isGhost_38 rfl (by decide) (by omega) (by omega) (fun h38 => ?_) (fun h38 => ?_)
        · refine r_iconst (pc2 := 46) dX5_isGhost_45 rfl ?_
          refine r_retb dX5_isGhost_46 rfl (by first | exact Or.inl rfl | exact Or.inr rfl | exact bz_01) ?_
          exact ⟨by first | (exfalso; omega) | rw [bz_t (by unfold mgC; omega)] | rw [bz_f (by unfold mgC; omega)], rfl⟩
        · refine r_iconst (pc2 := 42) dX5_isGhost_41 rfl ?_
          refine r_goto (tgt := 46) dX5_isGhost_42 (by decide) ?_
          refine r_retb dX5_isGhost_46 rfl (by first | exact Or.inl rfl | exact Or.inr rfl | exact bz_01) ?_
          exact ⟨by first | (exfalso; omega) | rw [bz_t (by unfold mgC; omega)] | rw [bz_f (by unfold mgC; omega)], rfl⟩

set_option maxHeartbeats 4000000 in
theorem m_ghostsAt (w : av_W) (h42 : 42 ≤ w.1) (hl tk tl sp rv rs oa : Int) (hO : w.2.2 33 = mdO hl tk tl sp rv rs oa) (g : Nat → Int) (hA : w.2.2 34 = arO 61 g) (hGR : GR g) (hGS : GS g) (so : Nat → Int) (hS : w.2.2 38 = arO 228 so) (hSo : SoR so) (x : Int) (hx : -9 ≤ x ∧ x ≤ 9) : fn MX5_ghostsAt [.ref 33, .int (iN x)] w (some (.int (iN (mgA g so x)))) w := by
  have k33 : 33 < w.1 := by omega
  have k34 : 34 < w.1 := by omega
  have k38 : 38 < w.1 := by omega
  obtain ⟨hv, hp, hsh, hln⟩ := id hGR
  try unfold RG at *
  try unfold RLg at *
  show rn MX5_ghostsAt 0 [some (.ref 33), some (.int (iN x)), none, none] [] w (fun r' w' => r' = (some (.int (iN (mgA g so x)))) ∧ w' = w)
  have loop : ∀ (n : Nat) (k : Int) (m : Int), (0 ≤ k ∧ k ≤ 12 ∧ 13 ≤ k + n) → (m = sm (k).toNat (fun r : Nat => bz (mgC g so x r))) → rn MX5_ghostsAt 4 [some (.ref 33), some (.int (iN x)), some (.int (iN m)), some (.int (iN k))] [] w (fun r' w' => r' = (some (.int (iN (mgA g so x)))) ∧ w' = w) := by
    intro n
    induction n with
    | zero =>
      intro k m hk0 hk1
      exfalso
      omega
    | succ n ih =>
      intro k m hk0 hk1
      refine r_iload_n (pc2 := 5) dX5_ghostsAt_4 rfl rfl ?_
      refine r_bipush (pc2 := 7) dX5_ghostsAt_5 rfl (by decide) ?_
      refine r_icmp_ge (pc2 := 10) (tgt := 33) dX5_ghostsAt_7 rfl (by decide) (by omega) (by omega) (fun h7 => ?_) (fun h7 => ?_)
      · have h6 : k = 12 := by omega
        subst h6
        refine r_iload_n (pc2 := 34) dX5_ghostsAt_33 rfl rfl ?_
        refine r_ret dX5_ghostsAt_34 rfl ?_
        exact ⟨by rw [hk1]; rfl, rfl⟩
      · refine r_iload_n (pc2 := 11) dX5_ghostsAt_10 rfl rfl ?_
        refine r_aload_n (pc2 := 12) dX5_ghostsAt_11 rfl rfl ?_
        refine r_iload_n (pc2 := 13) dX5_ghostsAt_12 rfl rfl ?_
        refine r_iload_n (pc2 := 14) dX5_ghostsAt_13 rfl rfl ?_
        refine r_callv_2 (pc2 := 17) dX5_ghostsAt_14 rfl rs_5_63 rfl (by decide) rfl (Nat.le_of_ble_eq_true rfl) (Nat.le_of_ble_eq_true rfl) (by assumption) (by assumption) (m_isGhost _ h42 hl tk tl sp rv rs oa hO g hA hGR hGS so hS hSo x k hx (by omega)) (fun r_ w_ h_ => ?_)
        rw [h_.1, h_.2]
        clear h_ w_ r_
        refine ⟨rfl, ?_⟩
        refine r_ifb_eq (pc2 := 20) (tgt := 24) dX5_ghostsAt_17 rfl (by decide)  (fun h17 => ?_) (fun h17 => ?_)
        · have hq : (fun r : Nat => bz (mgC g so x r)) (k).toNat = 0 := by
            dsimp only
            rw [tn (by omega)]
            exact bz_f h17
          refine r_iconst (pc2 := 25) dX5_ghostsAt_24 rfl ?_
          refine r_iadd (pc2 := 26) dX5_ghostsAt_25 rfl ?_
          refine r_ist_2 (pc2 := 27) dX5_ghostsAt_26 rfl rfl ?_
          refine r_iinc_3 (pc2 := 30) dX5_ghostsAt_27 rfl rfl ?_
          refine r_goto (tgt := 4) dX5_ghostsAt_30 (by decide) ?_
          exact ih (k + 1) _ (by omega) (by rw [show (k + 1) = k + 1 by omega, sm_step (by omega), ← hk1]; exact congrArg (fun z => m + z) hq.symm)
        · have hq : (fun r : Nat => bz (mgC g so x r)) (k).toNat = 1 := by
            dsimp only
            rw [tn (by omega)]
            exact bz_t h17
          refine r_iconst (pc2 := 21) dX5_ghostsAt_20 rfl ?_
          refine r_goto (tgt := 25) dX5_ghostsAt_21 (by decide) ?_
          refine r_iadd (pc2 := 26) dX5_ghostsAt_25 rfl ?_
          refine r_ist_2 (pc2 := 27) dX5_ghostsAt_26 rfl rfl ?_
          refine r_iinc_3 (pc2 := 30) dX5_ghostsAt_27 rfl rfl ?_
          refine r_goto (tgt := 4) dX5_ghostsAt_30 (by decide) ?_
          exact ih (k + 1) _ (by omega) (by rw [show (k + 1) = k + 1 by omega, sm_step (by omega), ← hk1]; exact congrArg (fun z => m + z) hq.symm)
  refine r_iconst (pc2 := 1) dX5_ghostsAt_0 rfl ?_
  refine r_ist_2 (pc2 := 2) dX5_ghostsAt_1 rfl rfl ?_
  refine r_iconst (pc2 := 3) dX5_ghostsAt_2 rfl ?_
  refine r_ist_3 (pc2 := 4) dX5_ghostsAt_3 rfl rfl ?_
  exact loop 13 0 0 (by omega) rfl

set_option maxHeartbeats 4000000 in
theorem m_showing (w : av_W) (h42 : 42 ≤ w.1) (hl tk tl sp rv rs oa : Int) (hO : w.2.2 33 = mdO hl tk tl sp rv rs oa) (g : Nat → Int) (hA : w.2.2 34 = arO 61 g) (hGR : GR g) (hGS : GS g) (so : Nat → Int) (hS : w.2.2 38 = arO 228 so) (hSo : SoR so) (x y : Int) (hx : -9 ≤ x ∧ x ≤ 9) (hy : RG y) : fn MX5_showing [.ref 33, .int (iN x), .int (iN y)] w (some (.int (iN (msH g so x y)))) w := by
  have k33 : 33 < w.1 := by omega
  have k34 : 34 < w.1 := by omega
  have k38 : 38 < w.1 := by omega
  obtain ⟨hv, hp, hsh, hln⟩ := id hGR
  try unfold RG at *
  try unfold RLg at *
  show rn MX5_showing 0 [some (.ref 33), some (.int (iN x)), some (.int (iN y)), none, none] [] w (fun r' w' => r' = (some (.int (iN (msH g so x y)))) ∧ w' = w)
  have loop : ∀ (n : Nat) (k : Int) (m : Int), (0 ≤ k ∧ k ≤ 12 ∧ 13 ≤ k + n) → (m = sm (k).toNat (fun r : Nat => bz (mS g so x r = y))) → rn MX5_showing 5 [some (.ref 33), some (.int (iN x)), some (.int (iN y)), some (.int (iN m)), some (.int (iN k))] [] w (fun r' w' => r' = (some (.int (iN (msH g so x y)))) ∧ w' = w) := by
    intro n
    induction n with
    | zero =>
      intro k m hk0 hk1
      exfalso
      omega
    | succ n ih =>
      intro k m hk0 hk1
      refine r_iload (pc2 := 7) dX5_showing_5 rfl rfl ?_
      refine r_bipush (pc2 := 9) dX5_showing_7 rfl (by decide) ?_
      refine r_icmp_ge (pc2 := 12) (tgt := 37) dX5_showing_9 rfl (by decide) (by omega) (by omega) (fun h9 => ?_) (fun h9 => ?_)
      · have h6 : k = 12 := by omega
        subst h6
        refine r_iload_n (pc2 := 38) dX5_showing_37 rfl rfl ?_
        refine r_ret dX5_showing_38 rfl ?_
        exact ⟨by rw [hk1]; rfl, rfl⟩
      · refine r_iload_n (pc2 := 13) dX5_showing_12 rfl rfl ?_
        refine r_aload_n (pc2 := 14) dX5_showing_13 rfl rfl ?_
        refine r_iload_n (pc2 := 15) dX5_showing_14 rfl rfl ?_
        refine r_iload (pc2 := 17) dX5_showing_15 rfl rfl ?_
        refine r_callv_2 (pc2 := 20) dX5_showing_17 rfl rs_5_60 rfl (by decide) rfl (Nat.le_of_ble_eq_true rfl) (Nat.le_of_ble_eq_true rfl) (by assumption) (by assumption) (m_viewSeen _ h42 hl tk tl sp rv rs oa hO g hA hGR hGS so hS hSo x k (by omega) (by omega)) (fun r_ w_ h_ => ?_)
        rw [h_.1, h_.2]
        clear h_ w_ r_
        refine ⟨rfl, ?_⟩
        refine r_iload_n (pc2 := 21) dX5_showing_20 rfl rfl ?_
        have g1 := mS_rg hGS hSo (an := x) (r := k) (by omega)
        refine r_icmp_ne (pc2 := 24) (tgt := 28) dX5_showing_21 rfl (by decide) (by omega) (by omega) (fun h21 => ?_) (fun h21 => ?_)
        · have hq : (fun r : Nat => bz (mS g so x r = y)) (k).toNat = 0 := by
            dsimp only
            rw [tn (by omega)]
            exact bz_f h21
          refine r_iconst (pc2 := 29) dX5_showing_28 rfl ?_
          refine r_iadd (pc2 := 30) dX5_showing_29 rfl ?_
          refine r_ist_3 (pc2 := 31) dX5_showing_30 rfl rfl ?_
          refine r_iinc_4 (pc2 := 34) dX5_showing_31 rfl rfl ?_
          refine r_goto (tgt := 5) dX5_showing_34 (by decide) ?_
          exact ih (k + 1) _ (by omega) (by rw [show (k + 1) = k + 1 by omega, sm_step (by omega), ← hk1]; exact congrArg (fun z => m + z) hq.symm)
        · have hq : (fun r : Nat => bz (mS g so x r = y)) (k).toNat = 1 := by
            dsimp only
            rw [tn (by omega)]
            exact bz_t h21
          refine r_iconst (pc2 := 25) dX5_showing_24 rfl ?_
          refine r_goto (tgt := 29) dX5_showing_25 (by decide) ?_
          refine r_iadd (pc2 := 30) dX5_showing_29 rfl ?_
          refine r_ist_3 (pc2 := 31) dX5_showing_30 rfl rfl ?_
          refine r_iinc_4 (pc2 := 34) dX5_showing_31 rfl rfl ?_
          refine r_goto (tgt := 5) dX5_showing_34 (by decide) ?_
          exact ih (k + 1) _ (by omega) (by rw [show (k + 1) = k + 1 by omega, sm_step (by omega), ← hk1]; exact congrArg (fun z => m + z) hq.symm)
  refine r_iconst (pc2 := 1) dX5_showing_0 rfl ?_
  refine r_ist_3 (pc2 := 2) dX5_showing_1 rfl rfl ?_
  refine r_iconst (pc2 := 3) dX5_showing_2 rfl ?_
  refine r_ist_4 (pc2 := 5) dX5_showing_3 rfl rfl ?_
  exact loop 13 0 0 (by omega) rfl

set_option maxHeartbeats 4000000 in
theorem m_wholeAngles (w : av_W) (h42 : 42 ≤ w.1) (hl tk tl sp rv rs oa : Int) (hO : w.2.2 33 = mdO hl tk tl sp rv rs oa) (g : Nat → Int) (hA : w.2.2 34 = arO 61 g) (hGR : GR g) (hGS : GS g) (so : Nat → Int) (hS : w.2.2 38 = arO 228 so) (hSo : SoR so) (y : Int) (hy : RG y) : fn MX5_wholeAngles [.ref 33, .int (iN y)] w (some (.int (iN (mwA g so y)))) w := by
  have k33 : 33 < w.1 := by omega
  have k34 : 34 < w.1 := by omega
  have k38 : 38 < w.1 := by omega
  obtain ⟨hv, hp, hsh, hln⟩ := id hGR
  try unfold RG at *
  try unfold RLg at *
  show rn MX5_wholeAngles 0 [some (.ref 33), some (.int (iN y)), none, none] [] w (fun r' w' => r' = (some (.int (iN (mwA g so y)))) ∧ w' = w)
  have loop : ∀ (n : Nat) (k : Int) (m : Int), (-9 ≤ k ∧ k ≤ 10 ∧ 11 ≤ k + n) → (m = sm (k + 9).toNat (fun i : Nat => bz (msH g so ((i : Int) - 9) y = 12))) → rn MX5_wholeAngles 5 [some (.ref 33), some (.int (iN y)), some (.int (iN m)), some (.int (iN k))] [] w (fun r' w' => r' = (some (.int (iN (mwA g so y)))) ∧ w' = w) := by
    intro n
    induction n with
    | zero =>
      intro k m hk0 hk1
      exfalso
      omega
    | succ n ih =>
      intro k m hk0 hk1
      refine r_iload_n (pc2 := 6) dX5_wholeAngles_5 rfl rfl ?_
      refine r_bipush (pc2 := 8) dX5_wholeAngles_6 rfl (by decide) ?_
      refine r_icmp_gt (pc2 := 11) (tgt := 36) dX5_wholeAngles_8 rfl (by decide) (by omega) (by omega) (fun h8 => ?_) (fun h8 => ?_)
      · have h6 : k = 10 := by omega
        subst h6
        refine r_iload_n (pc2 := 37) dX5_wholeAngles_36 rfl rfl ?_
        refine r_ret dX5_wholeAngles_37 rfl ?_
        have e19 : ((10 : Int) + 9).toNat = 19 := by decide
        rw [e19] at hk1
        exact ⟨by rw [hk1]; rfl, rfl⟩
      · refine r_iload_n (pc2 := 12) dX5_wholeAngles_11 rfl rfl ?_
        refine r_aload_n (pc2 := 13) dX5_wholeAngles_12 rfl rfl ?_
        refine r_iload_n (pc2 := 14) dX5_wholeAngles_13 rfl rfl ?_
        refine r_iload_n (pc2 := 15) dX5_wholeAngles_14 rfl rfl ?_
        refine r_callv_2 (pc2 := 18) dX5_wholeAngles_15 rfl rs_5_78 rfl (by decide) rfl (Nat.le_of_ble_eq_true rfl) (Nat.le_of_ble_eq_true rfl) (by assumption) (by assumption) (m_showing _ h42 hl tk tl sp rv rs oa hO g hA hGR hGS so hS hSo k y (by omega) (by unfold RG; omega)) (fun r_ w_ h_ => ?_)
        rw [h_.1, h_.2]
        clear h_ w_ r_
        refine ⟨rfl, ?_⟩
        refine r_bipush (pc2 := 20) dX5_wholeAngles_18 rfl (by decide) ?_
        have g1 := msH_rg g so k y
        refine r_icmp_ne (pc2 := 23) (tgt := 27) dX5_wholeAngles_20 rfl (by decide) (by omega) (by omega) (fun h20 => ?_) (fun h20 => ?_)
        · have hq : (fun i : Nat => bz (msH g so ((i : Int) - 9) y = 12)) (k + 9).toNat = 0 := by
            dsimp only
            rw [tn (by omega), show k + 9 - 9 = k by omega]
            exact bz_f h20
          refine r_iconst (pc2 := 28) dX5_wholeAngles_27 rfl ?_
          refine r_iadd (pc2 := 29) dX5_wholeAngles_28 rfl ?_
          refine r_ist_2 (pc2 := 30) dX5_wholeAngles_29 rfl rfl ?_
          refine r_iinc_3 (pc2 := 33) dX5_wholeAngles_30 rfl rfl ?_
          refine r_goto (tgt := 5) dX5_wholeAngles_33 (by decide) ?_
          exact ih (k + 1) _ (by omega) (by rw [show (k + 1) + 9 = k + 9 + 1 by omega, sm_step (by omega), ← hk1]; exact congrArg (fun z => m + z) hq.symm)
        · have hq : (fun i : Nat => bz (msH g so ((i : Int) - 9) y = 12)) (k + 9).toNat = 1 := by
            dsimp only
            rw [tn (by omega), show k + 9 - 9 = k by omega]
            exact bz_t h20
          refine r_iconst (pc2 := 24) dX5_wholeAngles_23 rfl ?_
          refine r_goto (tgt := 28) dX5_wholeAngles_24 (by decide) ?_
          refine r_iadd (pc2 := 29) dX5_wholeAngles_28 rfl ?_
          refine r_ist_2 (pc2 := 30) dX5_wholeAngles_29 rfl rfl ?_
          refine r_iinc_3 (pc2 := 33) dX5_wholeAngles_30 rfl rfl ?_
          refine r_goto (tgt := 5) dX5_wholeAngles_33 (by decide) ?_
          exact ih (k + 1) _ (by omega) (by rw [show (k + 1) + 9 = k + 9 + 1 by omega, sm_step (by omega), ← hk1]; exact congrArg (fun z => m + z) hq.symm)
  refine r_iconst (pc2 := 1) dX5_wholeAngles_0 rfl ?_
  refine r_ist_2 (pc2 := 2) dX5_wholeAngles_1 rfl rfl ?_
  refine r_bipush (pc2 := 4) dX5_wholeAngles_2 rfl (by decide) ?_
  refine r_ist_3 (pc2 := 5) dX5_wholeAngles_4 rfl rfl ?_
  exact loop 20 (-9) 0 (by omega) rfl

set_option maxHeartbeats 4000000 in
theorem m_ghosts (w : av_W) (h42 : 42 ≤ w.1) (hl tk tl sp rv rs oa : Int) (hO : w.2.2 33 = mdO hl tk tl sp rv rs oa) (g : Nat → Int) (hA : w.2.2 34 = arO 61 g) (hGR : GR g) (hGS : GS g) (so : Nat → Int) (hS : w.2.2 38 = arO 228 so) (hSo : SoR so) : fn MX5_ghosts [.ref 33] w (some (.int (iN (mgG g so)))) w := by
  have k33 : 33 < w.1 := by omega
  have k34 : 34 < w.1 := by omega
  have k38 : 38 < w.1 := by omega
  obtain ⟨hv, hp, hsh, hln⟩ := id hGR
  try unfold RG at *
  try unfold RLg at *
  show rn MX5_ghosts 0 [some (.ref 33), none, none] [] w (fun r' w' => r' = (some (.int (iN (mgG g so)))) ∧ w' = w)
  have loop : ∀ (n : Nat) (k : Int) (m : Int), (-9 ≤ k ∧ k ≤ 10 ∧ 11 ≤ k + n) → (m = sm (k + 9).toNat (fun i => mgA g so ((i : Int) - 9))) → rn MX5_ghosts 5 [some (.ref 33), some (.int (iN m)), some (.int (iN k))] [] w (fun r' w' => r' = (some (.int (iN (mgG g so)))) ∧ w' = w) := by
    intro n
    induction n with
    | zero =>
      intro k m hk0 hk1
      exfalso
      omega
    | succ n ih =>
      intro k m hk0 hk1
      refine r_iload_n (pc2 := 6) dX5_ghosts_5 rfl rfl ?_
      refine r_bipush (pc2 := 8) dX5_ghosts_6 rfl (by decide) ?_
      refine r_icmp_gt (pc2 := 11) (tgt := 25) dX5_ghosts_8 rfl (by decide) (by omega) (by omega) (fun h8 => ?_) (fun h8 => ?_)
      · have h6 : k = 10 := by omega
        subst h6
        refine r_iload_n (pc2 := 26) dX5_ghosts_25 rfl rfl ?_
        refine r_ret dX5_ghosts_26 rfl ?_
        have e19 : ((10 : Int) + 9).toNat = 19 := by decide
        rw [e19] at hk1
        exact ⟨by rw [hk1]; rfl, rfl⟩
      · refine r_iload_n (pc2 := 12) dX5_ghosts_11 rfl rfl ?_
        refine r_aload_n (pc2 := 13) dX5_ghosts_12 rfl rfl ?_
        refine r_iload_n (pc2 := 14) dX5_ghosts_13 rfl rfl ?_
        refine r_callv_1 (pc2 := 17) dX5_ghosts_14 rfl rs_5_67 rfl (by decide) rfl (Nat.le_of_ble_eq_true rfl) (Nat.le_of_ble_eq_true rfl) (by assumption) (by assumption) (m_ghostsAt _ h42 hl tk tl sp rv rs oa hO g hA hGR hGS so hS hSo k (by omega)) (fun r_ w_ h_ => ?_)
        rw [h_.1, h_.2]
        clear h_ w_ r_
        refine ⟨rfl, ?_⟩
        refine r_iadd (pc2 := 18) dX5_ghosts_17 rfl ?_
        refine r_ist_1 (pc2 := 19) dX5_ghosts_18 rfl rfl ?_
        refine r_iinc_2 (pc2 := 22) dX5_ghosts_19 rfl rfl ?_
        refine r_goto (tgt := 5) dX5_ghosts_22 (by decide) ?_
        exact ih (k + 1) _ (by omega) (by rw [show k + 1 + 9 = k + 9 + 1 by omega, sm_step (by omega), ← hk1, tn (by omega), show k + 9 - 9 = k by omega])
  refine r_iconst (pc2 := 1) dX5_ghosts_0 rfl ?_
  refine r_ist_1 (pc2 := 2) dX5_ghosts_1 rfl rfl ?_
  refine r_bipush (pc2 := 4) dX5_ghosts_2 rfl (by decide) ?_
  refine r_ist_2 (pc2 := 5) dX5_ghosts_4 rfl rfl ?_
  exact loop 20 (-9) 0 (by omega) rfl

set_option maxHeartbeats 4000000 in
theorem m_wholeAt (w : av_W) (h42 : 42 ≤ w.1) (hl tk tl sp rv rs oa : Int) (hO : w.2.2 33 = mdO hl tk tl sp rv rs oa) (g : Nat → Int) (hA : w.2.2 34 = arO 61 g) (hGR : GR g) (hGS : GS g) (so : Nat → Int) (hS : w.2.2 38 = arO 228 so) (hSo : SoR so) (x : Int) (hx : -9 ≤ x ∧ x ≤ 9) : fn MX5_wholeAt [.ref 33, .int (iN x)] w (some (.int (iN (mwT g so x (g 0).toNat)))) w := by
  have k33 : 33 < w.1 := by omega
  have k34 : 34 < w.1 := by omega
  have k38 : 38 < w.1 := by omega
  obtain ⟨hv, hp, hsh, hln⟩ := id hGR
  try unfold RG at *
  try unfold RLg at *
  show rn MX5_wholeAt 0 [some (.ref 33), some (.int (iN x)), none, none] [] w (fun r' w' => r' = (some (.int (iN (mwT g so x (g 0).toNat)))) ∧ w' = w)
  have loop : ∀ (n : Nat) (k : Int) (m : Int), (0 ≤ k ∧ k ≤ g 0 ∧ g 0 + 1 ≤ k + n) → (m = mwT g so x k.toNat) → rn MX5_wholeAt 5 [some (.ref 33), some (.int (iN x)), some (.int (iN m)), some (.int (iN k))] [] w (fun r' w' => r' = (some (.int (iN (mwT g so x (g 0).toNat)))) ∧ w' = w) := by
    intro n
    induction n with
    | zero =>
      intro k m hk0 hk1
      exfalso
      omega
    | succ n ih =>
      intro k m hk0 hk1
      refine r_iload_n (pc2 := 6) dX5_wholeAt_5 rfl rfl ?_
      refine r_aload_n (pc2 := 7) dX5_wholeAt_6 rfl rfl ?_
      refine r_getf (pc2 := 10) dX5_wholeAt_7 rfl fl_5_7 (by assumption) (by assumption) (by rfl) ?_
      refine r_iconst (pc2 := 11) dX5_wholeAt_10 rfl ?_
      refine r_ialk (k := 0) (pc2 := 12) dX5_wholeAt_11 rfl (by decide) (by assumption) (by assumption) (by omega) (by omega) (by omega) (by decide) ?_
      refine r_icmp_ge (pc2 := 15) (tgt := 38) dX5_wholeAt_12 rfl (by decide) (by omega) (by omega) (fun h12 => ?_) (fun h12 => ?_)
      · have h6 : k = g 0 := by omega
        refine r_iload_n (pc2 := 39) dX5_wholeAt_38 rfl rfl ?_
        refine r_ret dX5_wholeAt_39 rfl ?_
        exact ⟨by rw [hk1, h6], rfl⟩
      · refine r_aload_n (pc2 := 16) dX5_wholeAt_15 rfl rfl ?_
        refine r_iload_n (pc2 := 17) dX5_wholeAt_16 rfl rfl ?_
        refine r_iload_n (pc2 := 18) dX5_wholeAt_17 rfl rfl ?_
        refine r_callv_2 (pc2 := 21) dX5_wholeAt_18 rfl rs_5_78 rfl (by decide) rfl (Nat.le_of_ble_eq_true rfl) (Nat.le_of_ble_eq_true rfl) (by assumption) (by assumption) (m_showing _ h42 hl tk tl sp rv rs oa hO g hA hGR hGS so hS hSo x k (by omega) (by unfold RG; omega)) (fun r_ w_ h_ => ?_)
        rw [h_.1, h_.2]
        clear h_ w_ r_
        refine ⟨rfl, ?_⟩
        refine r_bipush (pc2 := 23) dX5_wholeAt_21 rfl (by decide) ?_
        have g1 := msH_rg g so x k
        refine r_icmp_ne (pc2 := 26) (tgt := 30) dX5_wholeAt_23 rfl (by decide) (by omega) (by omega) (fun h23 => ?_) (fun h23 => ?_)
        · have hnx : m = mwT g so x (k + 1).toNat := by
            rw [show (k + 1).toNat = k.toNat + 1 by omega, hk1]
            show _ = if msH g so x ((k.toNat : Nat) : Int) = 12 then _ else _
            rw [tn hk0.1, if_neg h23]
          refine r_iload_n (pc2 := 31) dX5_wholeAt_30 rfl rfl ?_
          refine r_ist_2 (pc2 := 32) dX5_wholeAt_31 rfl rfl ?_
          refine r_iinc_3 (pc2 := 35) dX5_wholeAt_32 rfl rfl ?_
          refine r_goto (tgt := 5) dX5_wholeAt_35 (by decide) ?_
          exact ih (k + 1) _ (by omega) hnx
        · have hnx : k = mwT g so x (k + 1).toNat := by
            rw [show (k + 1).toNat = k.toNat + 1 by omega]
            show _ = if msH g so x ((k.toNat : Nat) : Int) = 12 then ((k.toNat : Nat) : Int) else _
            rw [tn hk0.1, if_pos h23]
          refine r_iload_n (pc2 := 27) dX5_wholeAt_26 rfl rfl ?_
          refine r_goto (tgt := 31) dX5_wholeAt_27 (by decide) ?_
          refine r_ist_2 (pc2 := 32) dX5_wholeAt_31 rfl rfl ?_
          refine r_iinc_3 (pc2 := 35) dX5_wholeAt_32 rfl rfl ?_
          refine r_goto (tgt := 5) dX5_wholeAt_35 (by decide) ?_
          exact ih (k + 1) _ (by omega) hnx
  refine r_bipush (pc2 := 2) dX5_wholeAt_0 rfl (by decide) ?_
  refine r_ist_2 (pc2 := 3) dX5_wholeAt_2 rfl rfl ?_
  refine r_iconst (pc2 := 4) dX5_wholeAt_3 rfl ?_
  refine r_ist_3 (pc2 := 5) dX5_wholeAt_4 rfl rfl ?_
  exact loop ((g 0).toNat + 1) 0 (-105) (by omega) rfl

set_option maxHeartbeats 4000000 in
theorem m_mostAt (w : av_W) (h42 : 42 ≤ w.1) (hl tk tl sp rv rs oa : Int) (hO : w.2.2 33 = mdO hl tk tl sp rv rs oa) (g : Nat → Int) (hA : w.2.2 34 = arO 61 g) (hGR : GR g) (hGS : GS g) (so : Nat → Int) (hS : w.2.2 38 = arO 228 so) (hSo : SoR so) (x : Int) (hx : -9 ≤ x ∧ x ≤ 9) : fn MX5_mostAt [.ref 33, .int (iN x)] w (some (.int (iN (mmF g so x (g 0).toNat).1))) w := by
  have k33 : 33 < w.1 := by omega
  have k34 : 34 < w.1 := by omega
  have k38 : 38 < w.1 := by omega
  obtain ⟨hv, hp, hsh, hln⟩ := id hGR
  try unfold RG at *
  try unfold RLg at *
  show rn MX5_mostAt 0 [some (.ref 33), some (.int (iN x)), none, none, none, none] [] w (fun r' w' => r' = (some (.int (iN (mmF g so x (g 0).toNat).1))) ∧ w' = w)
  have loop : ∀ (n : Nat) (k : Int) (m q : Int) (b5 : Option Value), (0 ≤ k ∧ k ≤ g 0 ∧ g 0 + 1 ≤ k + n) → ((m, q) = mmF g so x k.toNat) → rn MX5_mostAt 8 [some (.ref 33), some (.int (iN x)), some (.int (iN m)), some (.int (iN q)), some (.int (iN k)), b5] [] w (fun r' w' => r' = (some (.int (iN (mmF g so x (g 0).toNat).1))) ∧ w' = w) := by
    intro n
    induction n with
    | zero =>
      intro k m q b5 hk0 hk1
      exfalso
      omega
    | succ n ih =>
      intro k m q b5 hk0 hk1
      have hmr := mmF_rg g so x k.toNat
      rw [← hk1] at hmr
      dsimp only at hmr
      refine r_iload (pc2 := 10) dX5_mostAt_8 rfl rfl ?_
      refine r_aload_n (pc2 := 11) dX5_mostAt_10 rfl rfl ?_
      refine r_getf (pc2 := 14) dX5_mostAt_11 rfl fl_5_7 (by assumption) (by assumption) (by rfl) ?_
      refine r_iconst (pc2 := 15) dX5_mostAt_14 rfl ?_
      refine r_ialk (k := 0) (pc2 := 16) dX5_mostAt_15 rfl (by decide) (by assumption) (by assumption) (by omega) (by omega) (by omega) (by decide) ?_
      refine r_icmp_ge (pc2 := 19) (tgt := 60) dX5_mostAt_16 rfl (by decide) (by omega) (by omega) (fun h16 => ?_) (fun h16 => ?_)
      · have h6 : k = g 0 := by omega
        refine r_iload_n (pc2 := 61) dX5_mostAt_60 rfl rfl ?_
        refine r_ret dX5_mostAt_61 rfl ?_
        exact ⟨by rw [← h6, ← hk1], rfl⟩
      · refine r_aload_n (pc2 := 20) dX5_mostAt_19 rfl rfl ?_
        refine r_iload_n (pc2 := 21) dX5_mostAt_20 rfl rfl ?_
        refine r_iload (pc2 := 23) dX5_mostAt_21 rfl rfl ?_
        refine r_callv_2 (pc2 := 26) dX5_mostAt_23 rfl rs_5_78 rfl (by decide) rfl (Nat.le_of_ble_eq_true rfl) (Nat.le_of_ble_eq_true rfl) (by assumption) (by assumption) (m_showing _ h42 hl tk tl sp rv rs oa hO g hA hGR hGS so hS hSo x k (by omega) (by unfold RG; omega)) (fun r_ w_ h_ => ?_)
        rw [h_.1, h_.2]
        clear h_ w_ r_
        refine ⟨rfl, ?_⟩
        have g1 := msH_rg g so x k
        refine r_ist_5 (pc2 := 28) dX5_mostAt_26 rfl rfl ?_
        refine r_iload (pc2 := 30) dX5_mostAt_28 rfl rfl ?_
        refine r_iload_n (pc2 := 31) dX5_mostAt_30 rfl rfl ?_
        refine r_icmp_le (pc2 := 34) (tgt := 39) dX5_mostAt_31 rfl (by decide) (by omega) (by omega) (fun h31 => ?_) (fun h31 => ?_)
        · refine r_iload_n (pc2 := 40) dX5_mostAt_39 rfl rfl ?_
          refine r_ist_2 (pc2 := 41) dX5_mostAt_40 rfl rfl ?_
          refine r_iload (pc2 := 43) dX5_mostAt_41 rfl rfl ?_
          refine r_iload_n (pc2 := 44) dX5_mostAt_43 rfl rfl ?_
          refine r_icmp_le (pc2 := 47) (tgt := 52) dX5_mostAt_44 rfl (by decide) (by omega) (by omega) (fun h44 => ?_) (fun h44 => ?_)
          · have hnx : (m, q) = mmF g so x (k + 1).toNat := by
              rw [show (k + 1).toNat = k.toNat + 1 by omega]
              show _ = if (mmF g so x k.toNat).2 < msH g so x ((k.toNat : Nat) : Int) then (((k.toNat : Nat) : Int), msH g so x ((k.toNat : Nat) : Int)) else _
              rw [tn hk0.1, ← hk1, if_neg (by dsimp only; omega)]
            refine r_iload_n (pc2 := 53) dX5_mostAt_52 rfl rfl ?_
            refine r_ist_3 (pc2 := 54) dX5_mostAt_53 rfl rfl ?_
            refine r_iinc_4 (pc2 := 57) dX5_mostAt_54 rfl rfl ?_
            refine r_goto (tgt := 8) dX5_mostAt_57 (by decide) ?_
            exact ih (k + 1) _ _ _ (by omega) hnx
          · exfalso
            omega
        · refine r_iload (pc2 := 36) dX5_mostAt_34 rfl rfl ?_
          refine r_goto (tgt := 40) dX5_mostAt_36 (by decide) ?_
          refine r_ist_2 (pc2 := 41) dX5_mostAt_40 rfl rfl ?_
          refine r_iload (pc2 := 43) dX5_mostAt_41 rfl rfl ?_
          refine r_iload_n (pc2 := 44) dX5_mostAt_43 rfl rfl ?_
          refine r_icmp_le (pc2 := 47) (tgt := 52) dX5_mostAt_44 rfl (by decide) (by omega) (by omega) (fun h44 => ?_) (fun h44 => ?_)
          · exfalso
            omega
          · have hnx : (k, msH g so x k) = mmF g so x (k + 1).toNat := by
              rw [show (k + 1).toNat = k.toNat + 1 by omega]
              show _ = if (mmF g so x k.toNat).2 < msH g so x ((k.toNat : Nat) : Int) then (((k.toNat : Nat) : Int), msH g so x ((k.toNat : Nat) : Int)) else _
              rw [tn hk0.1, ← hk1, if_pos (by dsimp only; omega)]
            refine r_iload (pc2 := 49) dX5_mostAt_47 rfl rfl ?_
            refine r_goto (tgt := 53) dX5_mostAt_49 (by decide) ?_
            refine r_ist_3 (pc2 := 54) dX5_mostAt_53 rfl rfl ?_
            refine r_iinc_4 (pc2 := 57) dX5_mostAt_54 rfl rfl ?_
            refine r_goto (tgt := 8) dX5_mostAt_57 (by decide) ?_
            exact ih (k + 1) _ _ _ (by omega) hnx
  refine r_bipush (pc2 := 2) dX5_mostAt_0 rfl (by decide) ?_
  refine r_ist_2 (pc2 := 3) dX5_mostAt_2 rfl rfl ?_
  refine r_iconst (pc2 := 4) dX5_mostAt_3 rfl ?_
  refine r_ist_3 (pc2 := 5) dX5_mostAt_4 rfl rfl ?_
  refine r_iconst (pc2 := 6) dX5_mostAt_5 rfl ?_
  refine r_ist_4 (pc2 := 8) dX5_mostAt_6 rfl rfl ?_
  exact loop ((g 0).toNat + 1) 0 (-105) 0 none (by omega) rfl

set_option maxHeartbeats 4000000 in
theorem m_clearest (w : av_W) (h42 : 42 ≤ w.1) (hl tk tl sp rv rs oa : Int) (hO : w.2.2 33 = mdO hl tk tl sp rv rs oa) (g : Nat → Int) (hA : w.2.2 34 = arO 61 g) (hGR : GR g) (hGS : GS g) (so : Nat → Int) (hS : w.2.2 38 = arO 228 so) (hSo : SoR so) (y : Int) (hy : RG y) : fn MX5_clearest [.ref 33, .int (iN y)] w (some (.int (iN (mcF g so y 18)))) w := by
  have k33 : 33 < w.1 := by omega
  have k34 : 34 < w.1 := by omega
  have k38 : 38 < w.1 := by omega
  obtain ⟨hv, hp, hsh, hln⟩ := id hGR
  try unfold RG at *
  try unfold RLg at *
  show rn MX5_clearest 0 [some (.ref 33), some (.int (iN y)), none, none, none] [] w (fun r' w' => r' = (some (.int (iN (mcF g so y 18)))) ∧ w' = w)
  have loop : ∀ (n : Nat) (k : Int) (m : Int) (b4 : Option Value), (-8 ≤ k ∧ k ≤ 10 ∧ 11 ≤ k + n) → (m = mcF g so y (k + 8).toNat) → rn MX5_clearest 6 [some (.ref 33), some (.int (iN y)), some (.int (iN m)), some (.int (iN k)), b4] [] w (fun r' w' => r' = (some (.int (iN (mcF g so y 18)))) ∧ w' = w) := by
    intro n
    induction n with
    | zero =>
      intro k m b4 hk0 hk1
      exfalso
      omega
    | succ n ih =>
      intro k m b4 hk0 hk1
      have hmr := mcF_rg g so y (k + 8).toNat (by omega)
      rw [← hk1] at hmr
      refine r_iload_n (pc2 := 7) dX5_clearest_6 rfl rfl ?_
      refine r_bipush (pc2 := 9) dX5_clearest_7 rfl (by decide) ?_
      refine r_icmp_gt (pc2 := 12) (tgt := 62) dX5_clearest_9 rfl (by decide) (by omega) (by omega) (fun h9 => ?_) (fun h9 => ?_)
      · have h6 : k = 10 := by omega
        subst h6
        refine r_iload_n (pc2 := 63) dX5_clearest_62 rfl rfl ?_
        refine r_ret dX5_clearest_63 rfl ?_
        have e19 : ((10 : Int) + 8).toNat = 18 := by decide
        rw [e19] at hk1
        exact ⟨by rw [hk1], rfl⟩
      · refine r_aload_n (pc2 := 13) dX5_clearest_12 rfl rfl ?_
        refine r_iload_n (pc2 := 14) dX5_clearest_13 rfl rfl ?_
        refine r_iload_n (pc2 := 15) dX5_clearest_14 rfl rfl ?_
        refine r_callv_2 (pc2 := 18) dX5_clearest_15 rfl rs_5_78 rfl (by decide) rfl (Nat.le_of_ble_eq_true rfl) (Nat.le_of_ble_eq_true rfl) (by assumption) (by assumption) (m_showing _ h42 hl tk tl sp rv rs oa hO g hA hGR hGS so hS hSo k y (by omega) (by unfold RG; omega)) (fun r_ w_ h_ => ?_)
        rw [h_.1, h_.2]
        clear h_ w_ r_
        refine ⟨rfl, ?_⟩
        refine r_aload_n (pc2 := 19) dX5_clearest_18 rfl rfl ?_
        refine r_iload_n (pc2 := 20) dX5_clearest_19 rfl rfl ?_
        refine r_iload_n (pc2 := 21) dX5_clearest_20 rfl rfl ?_
        refine r_callv_2 (pc2 := 24) dX5_clearest_21 rfl rs_5_78 rfl (by decide) rfl (Nat.le_of_ble_eq_true rfl) (Nat.le_of_ble_eq_true rfl) (by assumption) (by assumption) (m_showing _ h42 hl tk tl sp rv rs oa hO g hA hGR hGS so hS hSo m y (by omega) (by unfold RG; omega)) (fun r_ w_ h_ => ?_)
        rw [h_.1, h_.2]
        clear h_ w_ r_
        refine ⟨rfl, ?_⟩
        have g1 := msH_rg g so k y
        have g2 := msH_rg g so m y
        have g3 := mgA_rg g so k
        have g4 := mgA_rg g so m
        refine r_isub (pc2 := 25) dX5_clearest_24 rfl ?_
        refine r_ist_4 (pc2 := 27) dX5_clearest_25 rfl rfl ?_
        refine r_iload (pc2 := 29) dX5_clearest_27 rfl rfl ?_
        refine r_if_gt (pc2 := 32) (tgt := 50) dX5_clearest_29 rfl (by decide) (by omega) (fun h29 => ?_) (fun h29 => ?_)
        · have hnx : k = mcF g so y (k + 1 + 8).toNat := by
            rw [show (k + 1 + 8).toNat = (k + 8).toNat + 1 by omega]
            show _ = if msH g so (mcF g so y (k + 8).toNat) y < msH g so (((k + 8).toNat : Int) - 8) y ∨ (msH g so (((k + 8).toNat : Int) - 8) y = msH g so (mcF g so y (k + 8).toNat) y ∧ mgA g so (((k + 8).toNat : Int) - 8) < mgA g so (mcF g so y (k + 8).toNat)) then (((k + 8).toNat : Int) - 8) else mcF g so y (k + 8).toNat
            rw [← hk1, show (((k + 8).toNat : Nat) : Int) - 8 = k by omega, if_pos (by omega)]
          refine r_iload_n (pc2 := 51) dX5_clearest_50 rfl rfl ?_
          refine r_goto (tgt := 55) dX5_clearest_51 (by decide) ?_
          refine r_ist_2 (pc2 := 56) dX5_clearest_55 rfl rfl ?_
          refine r_iinc_3 (pc2 := 59) dX5_clearest_56 rfl rfl ?_
          refine r_goto (tgt := 6) dX5_clearest_59 (by decide) ?_
          exact ih (k + 1) _ _ (by omega) hnx
        · refine r_iload (pc2 := 34) dX5_clearest_32 rfl rfl ?_
          refine r_if_ne (pc2 := 37) (tgt := 54) dX5_clearest_34 rfl (by decide) (by omega) (fun h34 => ?_) (fun h34 => ?_)
          · have hnx : m = mcF g so y (k + 1 + 8).toNat := by
              rw [show (k + 1 + 8).toNat = (k + 8).toNat + 1 by omega]
              show _ = if msH g so (mcF g so y (k + 8).toNat) y < msH g so (((k + 8).toNat : Int) - 8) y ∨ (msH g so (((k + 8).toNat : Int) - 8) y = msH g so (mcF g so y (k + 8).toNat) y ∧ mgA g so (((k + 8).toNat : Int) - 8) < mgA g so (mcF g so y (k + 8).toNat)) then (((k + 8).toNat : Int) - 8) else mcF g so y (k + 8).toNat
              rw [← hk1, show (((k + 8).toNat : Nat) : Int) - 8 = k by omega, if_neg (by omega)]
            refine r_iload_n (pc2 := 55) dX5_clearest_54 rfl rfl ?_
            refine r_ist_2 (pc2 := 56) dX5_clearest_55 rfl rfl ?_
            refine r_iinc_3 (pc2 := 59) dX5_clearest_56 rfl rfl ?_
            refine r_goto (tgt := 6) dX5_clearest_59 (by decide) ?_
            exact ih (k + 1) _ _ (by omega) hnx
          · refine r_aload_n (pc2 := 38) dX5_clearest_37 rfl rfl ?_
            refine r_iload_n (pc2 := 39) dX5_clearest_38 rfl rfl ?_
            refine r_callv_1 (pc2 := 42) dX5_clearest_39 rfl rs_5_67 rfl (by decide) rfl (Nat.le_of_ble_eq_true rfl) (Nat.le_of_ble_eq_true rfl) (by assumption) (by assumption) (m_ghostsAt _ h42 hl tk tl sp rv rs oa hO g hA hGR hGS so hS hSo k (by omega)) (fun r_ w_ h_ => ?_)
            rw [h_.1, h_.2]
            clear h_ w_ r_
            refine ⟨rfl, ?_⟩
            refine r_aload_n (pc2 := 43) dX5_clearest_42 rfl rfl ?_
            refine r_iload_n (pc2 := 44) dX5_clearest_43 rfl rfl ?_
            refine r_callv_1 (pc2 := 47) dX5_clearest_44 rfl rs_5_67 rfl (by decide) rfl (Nat.le_of_ble_eq_true rfl) (Nat.le_of_ble_eq_true rfl) (by assumption) (by assumption) (m_ghostsAt _ h42 hl tk tl sp rv rs oa hO g hA hGR hGS so hS hSo m (by omega)) (fun r_ w_ h_ => ?_)
            rw [h_.1, h_.2]
            clear h_ w_ r_
            refine ⟨rfl, ?_⟩
            refine r_icmp_ge (pc2 := 50) (tgt := 54) dX5_clearest_47 rfl (by decide) (by omega) (by omega) (fun h47 => ?_) (fun h47 => ?_)
            · have hnx : m = mcF g so y (k + 1 + 8).toNat := by
                rw [show (k + 1 + 8).toNat = (k + 8).toNat + 1 by omega]
                show _ = if msH g so (mcF g so y (k + 8).toNat) y < msH g so (((k + 8).toNat : Int) - 8) y ∨ (msH g so (((k + 8).toNat : Int) - 8) y = msH g so (mcF g so y (k + 8).toNat) y ∧ mgA g so (((k + 8).toNat : Int) - 8) < mgA g so (mcF g so y (k + 8).toNat)) then (((k + 8).toNat : Int) - 8) else mcF g so y (k + 8).toNat
                rw [← hk1, show (((k + 8).toNat : Nat) : Int) - 8 = k by omega, if_neg (by omega)]
              refine r_iload_n (pc2 := 55) dX5_clearest_54 rfl rfl ?_
              refine r_ist_2 (pc2 := 56) dX5_clearest_55 rfl rfl ?_
              refine r_iinc_3 (pc2 := 59) dX5_clearest_56 rfl rfl ?_
              refine r_goto (tgt := 6) dX5_clearest_59 (by decide) ?_
              exact ih (k + 1) _ _ (by omega) hnx
            · have hnx : k = mcF g so y (k + 1 + 8).toNat := by
                rw [show (k + 1 + 8).toNat = (k + 8).toNat + 1 by omega]
                show _ = if msH g so (mcF g so y (k + 8).toNat) y < msH g so (((k + 8).toNat : Int) - 8) y ∨ (msH g so (((k + 8).toNat : Int) - 8) y = msH g so (mcF g so y (k + 8).toNat) y ∧ mgA g so (((k + 8).toNat : Int) - 8) < mgA g so (mcF g so y (k + 8).toNat)) then (((k + 8).toNat : Int) - 8) else mcF g so y (k + 8).toNat
                rw [← hk1, show (((k + 8).toNat : Nat) : Int) - 8 = k by omega, if_pos (by omega)]
              refine r_iload_n (pc2 := 51) dX5_clearest_50 rfl rfl ?_
              refine r_goto (tgt := 55) dX5_clearest_51 (by decide) ?_
              refine r_ist_2 (pc2 := 56) dX5_clearest_55 rfl rfl ?_
              refine r_iinc_3 (pc2 := 59) dX5_clearest_56 rfl rfl ?_
              refine r_goto (tgt := 6) dX5_clearest_59 (by decide) ?_
              exact ih (k + 1) _ _ (by omega) hnx
  refine r_bipush (pc2 := 2) dX5_clearest_0 rfl (by decide) ?_
  refine r_ist_2 (pc2 := 3) dX5_clearest_2 rfl rfl ?_
  refine r_bipush (pc2 := 5) dX5_clearest_3 rfl (by decide) ?_
  refine r_ist_3 (pc2 := 6) dX5_clearest_5 rfl rfl ?_
  exact loop 19 (-8) (-9) none (by omega) rfl

set_option maxHeartbeats 4000000 in
theorem m_slicesOf (w : av_W) (h42 : 42 ≤ w.1) (hl tk tl sp rv rs oa : Int) (hO : w.2.2 33 = mdO hl tk tl sp rv rs oa) (g : Nat → Int) (hA : w.2.2 34 = arO 61 g) (hGR : GR g) (hGS : GS g) (y : Int) (hy : RG y) : fn MX5_slicesOf [.ref 33, .int (iN y)] w (some (.int (iN (sm (g 1).toNat (fun j => bz (g (7 + j) = y)))))) w := by
  have k33 : 33 < w.1 := by omega
  have k34 : 34 < w.1 := by omega
  obtain ⟨hv, hp, hsh, hln⟩ := id hGR
  try unfold RG at *
  try unfold RLg at *
  show rn MX5_slicesOf 0 [some (.ref 33), some (.int (iN y)), none, none] [] w (fun r' w' => r' = (some (.int (iN (sm (g 1).toNat (fun j => bz (g (7 + j) = y)))))) ∧ w' = w)
  have loop : ∀ (n : Nat) (k : Int) (m : Int), (0 ≤ k ∧ k ≤ g 1 ∧ g 1 + 1 ≤ k + n) → (m = sm k.toNat (fun j => bz (g (7 + j) = y))) → rn MX5_slicesOf 4 [some (.ref 33), some (.int (iN y)), some (.int (iN m)), some (.int (iN k))] [] w (fun r' w' => r' = (some (.int (iN (sm (g 1).toNat (fun j => bz (g (7 + j) = y)))))) ∧ w' = w) := by
    intro n
    induction n with
    | zero =>
      intro k m hk0 hk1
      exfalso
      omega
    | succ n ih =>
      intro k m hk0 hk1
      refine r_iload_n (pc2 := 5) dX5_slicesOf_4 rfl rfl ?_
      refine r_aload_n (pc2 := 6) dX5_slicesOf_5 rfl rfl ?_
      refine r_getf (pc2 := 9) dX5_slicesOf_6 rfl fl_5_7 (by assumption) (by assumption) (by rfl) ?_
      refine r_iconst (pc2 := 10) dX5_slicesOf_9 rfl ?_
      refine r_ialk (k := 1) (pc2 := 11) dX5_slicesOf_10 rfl (by decide) (by assumption) (by assumption) (by omega) (by omega) (by omega) (by decide) ?_
      refine r_icmp_ge (pc2 := 14) (tgt := 41) dX5_slicesOf_11 rfl (by decide) (by omega) (by omega) (fun h11 => ?_) (fun h11 => ?_)
      · have h6 : k = g 1 := by omega
        refine r_iload_n (pc2 := 42) dX5_slicesOf_41 rfl rfl ?_
        refine r_ret dX5_slicesOf_42 rfl ?_
        exact ⟨by rw [hk1, h6], rfl⟩
      · refine r_iload_n (pc2 := 15) dX5_slicesOf_14 rfl rfl ?_
        refine r_aload_n (pc2 := 16) dX5_slicesOf_15 rfl rfl ?_
        refine r_getf (pc2 := 19) dX5_slicesOf_16 rfl fl_5_7 (by assumption) (by assumption) (by rfl) ?_
        refine r_bipush (pc2 := 21) dX5_slicesOf_19 rfl (by decide) ?_
        refine r_iload_n (pc2 := 22) dX5_slicesOf_21 rfl rfl ?_
        refine r_iadd (pc2 := 23) dX5_slicesOf_22 rfl ?_
        have e7 : (7 + k).toNat = 7 + k.toNat := by omega
        refine r_iald (pc2 := 24) dX5_slicesOf_23 rfl (by decide) (by assumption) (by assumption) (by omega) (by omega) (by omega) ?_
        rw [e7]
        have gk := hGS k.toNat (by omega)
        refine r_iload_n (pc2 := 25) dX5_slicesOf_24 rfl rfl ?_
        refine r_icmp_ne (pc2 := 28) (tgt := 32) dX5_slicesOf_25 rfl (by decide) (by omega) (by omega) (fun h25 => ?_) (fun h25 => ?_)
        · have hq : bz (g (7 + k.toNat) = y) = 0 := bz_f h25
          refine r_iconst (pc2 := 33) dX5_slicesOf_32 rfl ?_
          refine r_iadd (pc2 := 34) dX5_slicesOf_33 rfl ?_
          refine r_ist_2 (pc2 := 35) dX5_slicesOf_34 rfl rfl ?_
          refine r_iinc_3 (pc2 := 38) dX5_slicesOf_35 rfl rfl ?_
          refine r_goto (tgt := 4) dX5_slicesOf_38 (by decide) ?_
          exact ih (k + 1) _ (by omega) (by rw [sm_step hk0.1, ← hk1, hq])
        · have hq : bz (g (7 + k.toNat) = y) = 1 := bz_t h25
          refine r_iconst (pc2 := 29) dX5_slicesOf_28 rfl ?_
          refine r_goto (tgt := 33) dX5_slicesOf_29 (by decide) ?_
          refine r_iadd (pc2 := 34) dX5_slicesOf_33 rfl ?_
          refine r_ist_2 (pc2 := 35) dX5_slicesOf_34 rfl rfl ?_
          refine r_iinc_3 (pc2 := 38) dX5_slicesOf_35 rfl rfl ?_
          refine r_goto (tgt := 4) dX5_slicesOf_38 (by decide) ?_
          exact ih (k + 1) _ (by omega) (by rw [sm_step hk0.1, ← hk1, hq])
  refine r_iconst (pc2 := 1) dX5_slicesOf_0 rfl ?_
  refine r_ist_2 (pc2 := 2) dX5_slicesOf_1 rfl rfl ?_
  refine r_iconst (pc2 := 3) dX5_slicesOf_2 rfl ?_
  refine r_ist_3 (pc2 := 4) dX5_slicesOf_3 rfl rfl ?_
  exact loop ((g 1).toNat + 1) 0 0 (by omega) rfl

set_option maxHeartbeats 4000000 in
theorem m_dueOf (w : av_W) (h42 : 42 ≤ w.1) (hl tk tl sp rv rs oa : Int) (hO : w.2.2 33 = mdO hl tk tl sp rv rs oa) (g : Nat → Int) (hA : w.2.2 34 = arO 61 g) (hGR : GR g) (hGS : GS g) (x y : Int) (hx : x = -105 ∨ (0 ≤ x ∧ x ≤ 12 * g 1 - 1)) (hy : RG y) : fn MX5_dueOf [.ref 33, .int (iN x), .int (iN y)] w (some (.int (iN (if x = -105 then -105 else if y = 0 then g (7 + x % g 1).toNat else if y = 1 then g (13 + 12 * g (7 + x % g 1).toNat + x / g 1).toNat else x / g 1)))) w := by
  have k33 : 33 < w.1 := by omega
  have k34 : 34 < w.1 := by omega
  obtain ⟨hv, hp, hsh, hln⟩ := id hGR
  try unfold RG at *
  try unfold RLg at *
  show rn MX5_dueOf 0 [some (.ref 33), some (.int (iN x)), some (.int (iN y)), none, none] [] w _
  refine r_iload_n (pc2 := 1) dX5_dueOf_0 rfl rfl ?_
  refine r_bipush (pc2 := 3) dX5_dueOf_1 rfl (by decide) ?_
  refine r_icmp_ne (pc2 := 6) (tgt := 9) dX5_dueOf_3 rfl (by decide) (by omega) (by omega) (fun h3 => ?_) (fun h3 => ?_)
  · have m1 := Int.emod_nonneg x (show g 1 ≠ 0 by omega)
    have m2 := Int.emod_lt_of_pos x (show 0 < g 1 by omega)
    have m3 := Int.ediv_nonneg (show 0 ≤ x by omega) (show 0 ≤ g 1 by omega)
    have m4 : x / g 1 < 12 := Int.ediv_lt_of_lt_mul (by omega) (by omega)
    have m5 := hGS (x % g 1).toNat (by omega)
    rw [show 7 + (x % g 1).toNat = (7 + x % g 1).toNat by omega] at m5
    refine r_aload_n (pc2 := 10) dX5_dueOf_9 rfl rfl ?_
    refine r_getf (pc2 := 13) dX5_dueOf_10 rfl fl_5_7 (by assumption) (by assumption) (by rfl) ?_
    refine r_bipush (pc2 := 15) dX5_dueOf_13 rfl (by decide) ?_
    refine r_iload_n (pc2 := 16) dX5_dueOf_15 rfl rfl ?_
    refine r_aload_n (pc2 := 17) dX5_dueOf_16 rfl rfl ?_
    refine r_getf (pc2 := 20) dX5_dueOf_17 rfl fl_5_7 (by assumption) (by assumption) (by rfl) ?_
    refine r_iconst (pc2 := 21) dX5_dueOf_20 rfl ?_
    refine r_ialk (k := 1) (pc2 := 22) dX5_dueOf_21 rfl (by decide) (by assumption) (by assumption) (by omega) (by omega) (by omega) (by decide) ?_
    refine r_irem (pc2 := 23) dX5_dueOf_22 rfl (by omega) (by omega) (by omega) (by omega) ?_
    rw [Int.tmod_eq_emod_of_nonneg (by omega)]
    refine r_iadd (pc2 := 24) dX5_dueOf_23 rfl ?_
    refine r_iald (pc2 := 25) dX5_dueOf_24 rfl (by decide) (by assumption) (by assumption) (by omega) (by omega) (by omega) ?_
    refine r_ist_3 (pc2 := 26) dX5_dueOf_25 rfl rfl ?_
    refine r_iload_n (pc2 := 27) dX5_dueOf_26 rfl rfl ?_
    refine r_aload_n (pc2 := 28) dX5_dueOf_27 rfl rfl ?_
    refine r_getf (pc2 := 31) dX5_dueOf_28 rfl fl_5_7 (by assumption) (by assumption) (by rfl) ?_
    refine r_iconst (pc2 := 32) dX5_dueOf_31 rfl ?_
    refine r_ialk (k := 1) (pc2 := 33) dX5_dueOf_32 rfl (by decide) (by assumption) (by assumption) (by omega) (by omega) (by omega) (by decide) ?_
    refine r_idiv (pc2 := 34) dX5_dueOf_33 rfl (by omega) (by omega) (by omega) (by omega) ?_
    rw [Int.tdiv_eq_ediv_of_nonneg (by omega)]
    refine r_ist_4 (pc2 := 36) dX5_dueOf_34 rfl rfl ?_
    refine r_iload_n (pc2 := 37) dX5_dueOf_36 rfl rfl ?_
    refine r_if_ne (pc2 := 40) (tgt := 44) dX5_dueOf_37 rfl (by decide) (by omega) (fun h37 => ?_) (fun h37 => ?_)
    · refine r_iload_n (pc2 := 45) dX5_dueOf_44 rfl rfl ?_
      refine r_iconst (pc2 := 46) dX5_dueOf_45 rfl ?_
      refine r_icmp_ne (pc2 := 49) (tgt := 59) dX5_dueOf_46 rfl (by decide) (by omega) (by omega) (fun h46 => ?_) (fun h46 => ?_)
      · refine r_iload (pc2 := 61) dX5_dueOf_59 rfl rfl ?_
        refine r_ret dX5_dueOf_61 rfl ?_
        exact ⟨by first | rw [if_pos (by omega)] | rw [if_neg (by omega), if_pos (by omega)] | rw [if_neg (by omega), if_neg (by omega), if_pos (by omega)] | rw [if_neg (by omega), if_neg (by omega), if_neg (by omega)], rfl⟩
      · refine r_aload_n (pc2 := 50) dX5_dueOf_49 rfl rfl ?_
        refine r_iload_n (pc2 := 51) dX5_dueOf_50 rfl rfl ?_
        refine r_iload (pc2 := 53) dX5_dueOf_51 rfl rfl ?_
        refine r_callv_2 (pc2 := 56) dX5_dueOf_53 rfl rs_5_91 rfl (by decide) rfl (Nat.le_of_ble_eq_true rfl) (Nat.le_of_ble_eq_true rfl) (by assumption) (by assumption) (m_colourAt _ h42 hl tk tl sp rv rs oa hO g hA hGR (g (7 + x % g 1).toNat) (x / g 1) (by omega) (by omega)) (fun r_ w_ h_ => ?_)
        rw [h_.1, h_.2]
        clear h_ w_ r_
        refine ⟨rfl, ?_⟩
        refine r_goto (tgt := 61) dX5_dueOf_56 (by decide) ?_
        refine r_ret dX5_dueOf_61 rfl ?_
        exact ⟨by first | rw [if_pos (by omega)] | rw [if_neg (by omega), if_pos (by omega)] | rw [if_neg (by omega), if_neg (by omega), if_pos (by omega)] | rw [if_neg (by omega), if_neg (by omega), if_neg (by omega)], rfl⟩
    · refine r_iload_n (pc2 := 41) dX5_dueOf_40 rfl rfl ?_
      refine r_goto (tgt := 61) dX5_dueOf_41 (by decide) ?_
      refine r_ret dX5_dueOf_61 rfl ?_
      exact ⟨by first | rw [if_pos (by omega)] | rw [if_neg (by omega), if_pos (by omega)] | rw [if_neg (by omega), if_neg (by omega), if_pos (by omega)] | rw [if_neg (by omega), if_neg (by omega), if_neg (by omega)], rfl⟩
  · refine r_bipush (pc2 := 8) dX5_dueOf_6 rfl (by decide) ?_
    refine r_ret dX5_dueOf_8 rfl ?_
    exact ⟨by first | rw [if_pos (by omega)] | rw [if_neg (by omega), if_pos (by omega)] | rw [if_neg (by omega), if_neg (by omega), if_pos (by omega)] | rw [if_neg (by omega), if_neg (by omega), if_neg (by omega)], rfl⟩
