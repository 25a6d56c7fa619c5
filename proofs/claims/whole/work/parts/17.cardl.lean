/-! the class's Card: more loops -/
def SR (s : Nat → Int) : Prop := ∀ j, j < 6 → 0 ≤ s j ∧ s j ≤ 3
def cnS (p : Int) (s : Nat → Int) (x : Int) : Int := sm p.toNat (fun j => bz (s j = x))
def hg : Nat → (Nat → Int) → Int
  | 0, _ => 0
  | n + 1, s => max (hg n s) (s n)
theorem hg_step {k : Int} (hk : 0 ≤ k) (s : Nat → Int) : hg (k + 1).toNat s = max (hg k.toNat s) (s k.toNat) := by
  rw [show (k + 1).toNat = k.toNat + 1 by omega]
  rfl
theorem hg_rg {s : Nat → Int} (n : Nat) (hn : n ≤ 6) (h : SR s) : 0 ≤ hg n s ∧ hg n s ≤ 3 := by
  induction n with
  | zero => simp [hg]
  | succ n ih =>
    have h1 := ih (by omega)
    have h2 := h n (by omega)
    show 0 ≤ max (hg n s) (s n) ∧ max (hg n s) (s n) ≤ 3
    omega
theorem cnS_rg {p x : Int} {s : Nat → Int} (hp : 2 ≤ p ∧ p ≤ 6) : 0 ≤ cnS p s x ∧ cnS p s x ≤ 6 := by
  have h := sm_rg (n := p.toNat) (f := fun j => bz (s j = x)) (L := 0) (H := 1) (fun j _ => bz_rg)
  unfold cnS
  rw [tn (by omega)] at h
  omega

set_option maxHeartbeats 4000000 in
theorem c_viewDueI (w : av_W) (a ca sa : Nat) (v p sh ln pr gd co : Int) (c s : Nat → Int) (hC : Cd w a ca sa v p sh ln pr gd co c s) (hK : KR v p sh ln) (x : Int) (hx : 0 ≤ x ∧ x ≤ 5) : fn MX0_viewDue [.ref a, .int (iN x)] w (some (.int (iN (s x.toNat)))) w := by
  obtain ⟨⟨ha, hw⟩, ⟨hca, hcw⟩, ⟨hsa, hsw⟩, hne1, hne2, hne3⟩ := id hC
  obtain ⟨hv, hp, hsh, hln⟩ := id hK
  try unfold RG at *
  show rn MX0_viewDue 0 [some (.ref a), some (.int (iN x))] [] w _
  refine r_iload_n (pc2 := 1) dX0_viewDue_0 rfl rfl ?_
  refine r_if_lt (pc2 := 4) (tgt := 10) dX0_viewDue_1 rfl (by decide) (by omega) (fun h1 => ?_) (fun h1 => ?_)
  · refine r_iconst (pc2 := 11) dX0_viewDue_10 rfl ?_
    refine r_ret dX0_viewDue_11 rfl ?_
    first | exact ⟨rfl, rfl⟩ | (exfalso; omega)
  · refine r_iload_n (pc2 := 5) dX0_viewDue_4 rfl rfl ?_
    refine r_bipush (pc2 := 7) dX0_viewDue_5 rfl (by decide) ?_
    refine r_icmp_lt (pc2 := 10) (tgt := 12) dX0_viewDue_7 rfl (by decide) (by omega) (by omega) (fun h7 => ?_) (fun h7 => ?_)
    · refine r_aload_n (pc2 := 13) dX0_viewDue_12 rfl rfl ?_
      refine r_getf (pc2 := 16) dX0_viewDue_13 rfl fl_0_22 (by assumption) (by assumption) (by rfl) ?_
      refine r_iload_n (pc2 := 17) dX0_viewDue_16 rfl rfl ?_
      refine r_iald (pc2 := 18) dX0_viewDue_17 rfl (by decide) (by assumption) (by assumption) (by omega) (by omega) (by omega) ?_
      refine r_ret dX0_viewDue_18 rfl ?_
      first | exact ⟨rfl, rfl⟩ | (exfalso; omega)
    · refine r_iconst (pc2 := 11) dX0_viewDue_10 rfl ?_
      refine r_ret dX0_viewDue_11 rfl ?_
      first | exact ⟨rfl, rfl⟩ | (exfalso; omega)

set_option maxHeartbeats 4000000 in
theorem c_startSlices (w : av_W) (a ca sa : Nat) (v p sh ln pr gd co : Int) (c s : Nat → Int) (hC : Cd w a ca sa v p sh ln pr gd co c s) (hK : KR v p sh ln) : fn MX0_startSlices [.ref a] w none (wst w sa (arO 6 (preF 6 (fun _ => 0) s))) := by
  obtain ⟨⟨ha, hw⟩, ⟨hca, hcw⟩, ⟨hsa, hsw⟩, hne1, hne2, hne3⟩ := id hC
  obtain ⟨hv, hp, hsh, hln⟩ := id hK
  try unfold RG at *
  show rn MX0_startSlices 0 [some (.ref a), none] [] w (fun r' w' => r' = none ∧ w' = (wst w sa (arO 6 (preF 6 (fun _ => 0) s))))
  have loop : ∀ (n : Nat) (k : Int), (0 ≤ k ∧ k ≤ 6 ∧ 7 ≤ k + n) → rn MX0_startSlices 2 [some (.ref a), some (.int (iN k))] [] (wst w sa (arO 6 (preF k (fun _ => 0) s))) (fun r' w' => r' = none ∧ w' = (wst w sa (arO 6 (preF 6 (fun _ => 0) s)))) := by
    intro n
    induction n with
    | zero =>
      intro k hk0
      exfalso
      omega
    | succ n ih =>
      intro k hk0
      obtain ⟨⟨hqa, hqw⟩, -, ⟨hqs, hqz⟩, -⟩ := (hC.slc (preF k (fun _ => 0) s))
      refine r_iload_n (pc2 := 3) dX0_startSlices_2 rfl rfl ?_
      refine r_bipush (pc2 := 5) dX0_startSlices_3 rfl (by decide) ?_
      refine r_icmp_ge (pc2 := 8) (tgt := 21) dX0_startSlices_5 rfl (by decide) (by omega) (by omega) (fun h5 => ?_) (fun h5 => ?_)
      · have h6 : k = 6 := by omega
        subst h6
        refine r_retv dX0_startSlices_21 rfl ?_
        exact ⟨rfl, rfl⟩
      · refine r_aload_n (pc2 := 9) dX0_startSlices_8 rfl rfl ?_
        refine r_getf (pc2 := 12) dX0_startSlices_9 rfl fl_0_22 (by assumption) (by assumption) (by rfl) ?_
        refine r_iload_n (pc2 := 13) dX0_startSlices_12 rfl rfl ?_
        refine r_iconst (pc2 := 14) dX0_startSlices_13 rfl ?_
        refine r_iast (pc2 := 15) dX0_startSlices_14 rfl (by assumption) (by assumption) (by omega) (by omega) (by omega) ?_
        rw [wst_wst, preF_step hk0.1 (fun _ => 0) s]
        refine r_iinc_1 (pc2 := 18) dX0_startSlices_15 rfl rfl ?_
        refine r_goto (tgt := 2) dX0_startSlices_18 (by decide) ?_
        exact ih (k + 1) (by omega)
  refine r_iconst (pc2 := 1) dX0_startSlices_0 rfl ?_
  refine r_ist_1 (pc2 := 2) dX0_startSlices_1 rfl rfl ?_
  have := loop 7 0 (by omega)
  rw [preF_0, wst_id hsw] at this
  exact this

set_option maxHeartbeats 4000000 in
theorem c_slicesShowing (w : av_W) (a ca sa : Nat) (v p sh ln pr gd co : Int) (c s : Nat → Int) (hC : Cd w a ca sa v p sh ln pr gd co c s) (hK : KR v p sh ln) (hS : SR s) (x : Int) (hx : RG x) : fn MX0_slicesShowing [.ref a, .int (iN x)] w (some (.int (iN (cnS p s x)))) w := by
  obtain ⟨⟨ha, hw⟩, ⟨hca, hcw⟩, ⟨hsa, hsw⟩, hne1, hne2, hne3⟩ := id hC
  obtain ⟨hv, hp, hsh, hln⟩ := id hK
  try unfold RG at *
  show rn MX0_slicesShowing 0 [some (.ref a), some (.int (iN x)), none, none] [] w (fun r' w' => r' = (some (.int (iN (cnS p s x)))) ∧ w' = w)
  have loop : ∀ (n : Nat) (k : Int) (m : Int), (0 ≤ k ∧ k ≤ p ∧ p + 1 ≤ k + n) → (m = sm k.toNat (fun j => bz (s j = x))) → rn MX0_slicesShowing 4 [some (.ref a), some (.int (iN x)), some (.int (iN m)), some (.int (iN k))] [] w (fun r' w' => r' = (some (.int (iN (cnS p s x)))) ∧ w' = w) := by
    intro n
    induction n with
    | zero =>
      intro k m hk0 hk1
      exfalso
      omega
    | succ n ih =>
      intro k m hk0 hk1
      refine r_iload_n (pc2 := 5) dX0_slicesShowing_4 rfl rfl ?_
      refine r_aload_n (pc2 := 6) dX0_slicesShowing_5 rfl rfl ?_
      refine r_getf (pc2 := 9) dX0_slicesShowing_6 rfl fl_0_19 (by assumption) (by assumption) (by rfl) ?_
      refine r_icmp_ge (pc2 := 12) (tgt := 30) dX0_slicesShowing_9 rfl (by decide) (by omega) (by omega) (fun h9 => ?_) (fun h9 => ?_)
      · have h6 : k = p := by omega
        subst h6
        refine r_iload_n (pc2 := 31) dX0_slicesShowing_30 rfl rfl ?_
        refine r_ret dX0_slicesShowing_31 rfl ?_
        exact ⟨by rw [hk1]; rfl, rfl⟩
      · refine r_aload_n (pc2 := 13) dX0_slicesShowing_12 rfl rfl ?_
        refine r_iload_n (pc2 := 14) dX0_slicesShowing_13 rfl rfl ?_
        refine r_callv_1 (pc2 := 17) dX0_slicesShowing_14 rfl rs_0_63 rfl (by decide) rfl (Nat.le_of_ble_eq_true rfl) (Nat.le_of_ble_eq_true rfl) (by assumption) (by assumption) (c_viewDueI _ a ca sa v p sh ln pr gd co _ _ hC hK k (by omega)) (fun r_ w_ h_ => ?_)
        rw [h_.1, h_.2]
        clear h_ w_ r_
        refine ⟨rfl, ?_⟩
        have hsk := hS k.toNat (by omega)
        refine r_iload_n (pc2 := 18) dX0_slicesShowing_17 rfl rfl ?_
        refine r_icmp_ne (pc2 := 21) (tgt := 24) dX0_slicesShowing_18 rfl (by decide) (by omega) (by omega) (fun h18 => ?_) (fun h18 => ?_)
        · have hb : bz (s k.toNat = x) = 0 := bz_f h18
          rw [show m = m + 0 by omega]
          refine r_iinc_3 (pc2 := 27) dX0_slicesShowing_24 rfl rfl ?_
          refine r_goto (tgt := 4) dX0_slicesShowing_27 (by decide) ?_
          exact ih (k + 1) _ (by omega) (by rw [sm_step hk0.1, ← hk1, hb])
        · have hb : bz (s k.toNat = x) = 1 := bz_t h18
          refine r_iinc_2 (pc2 := 24) dX0_slicesShowing_21 rfl rfl ?_
          refine r_iinc_3 (pc2 := 27) dX0_slicesShowing_24 rfl rfl ?_
          refine r_goto (tgt := 4) dX0_slicesShowing_27 (by decide) ?_
          exact ih (k + 1) _ (by omega) (by rw [sm_step hk0.1, ← hk1, hb])
  refine r_iconst (pc2 := 1) dX0_slicesShowing_0 rfl ?_
  refine r_ist_2 (pc2 := 2) dX0_slicesShowing_1 rfl rfl ?_
  refine r_iconst (pc2 := 3) dX0_slicesShowing_2 rfl ?_
  refine r_ist_3 (pc2 := 4) dX0_slicesShowing_3 rfl rfl ?_
  exact loop (p.toNat + 1) 0 0 (by omega) rfl

set_option maxHeartbeats 4000000 in
theorem c_showsEachView (w : av_W) (a ca sa : Nat) (v p sh ln pr gd co : Int) (c s : Nat → Int) (hC : Cd w a ca sa v p sh ln pr gd co c s) (hK : KR v p sh ln) (hS : SR s) : fn MX0_showsEachView [.ref a] w (some (.int (iN (bz (∀ y : Nat, y < v.toNat → cnS p s y ≠ 0))))) w := by
  obtain ⟨⟨ha, hw⟩, ⟨hca, hcw⟩, ⟨hsa, hsw⟩, hne1, hne2, hne3⟩ := id hC
  obtain ⟨hv, hp, hsh, hln⟩ := id hK
  try unfold RG at *
  show rn MX0_showsEachView 0 [some (.ref a), none] [] w (fun r' w' => r' = (some (.int (iN (bz (∀ y : Nat, y < v.toNat → cnS p s y ≠ 0))))) ∧ w' = w)
  have loop : ∀ (n : Nat) (k : Int), (0 ≤ k ∧ k ≤ v ∧ v + 1 ≤ k + n) → (∀ y : Nat, (y : Int) < k → cnS p s y ≠ 0) → rn MX0_showsEachView 2 [some (.ref a), some (.int (iN k))] [] w (fun r' w' => r' = (some (.int (iN (bz (∀ y : Nat, y < v.toNat → cnS p s y ≠ 0))))) ∧ w' = w) := by
    intro n
    induction n with
    | zero =>
      intro k hk0 hk1
      exfalso
      omega
    | succ n ih =>
      intro k hk0 hk1
      refine r_iload_n (pc2 := 3) dX0_showsEachView_2 rfl rfl ?_
      refine r_aload_n (pc2 := 4) dX0_showsEachView_3 rfl rfl ?_
      refine r_getf (pc2 := 7) dX0_showsEachView_4 rfl fl_0_9 (by assumption) (by assumption) (by rfl) ?_
      refine r_icmp_ge (pc2 := 10) (tgt := 26) dX0_showsEachView_7 rfl (by decide) (by omega) (by omega) (fun h7 => ?_) (fun h7 => ?_)
      · refine r_iconst (pc2 := 27) dX0_showsEachView_26 rfl ?_
        refine r_retb dX0_showsEachView_27 rfl (by first | exact Or.inl rfl | exact Or.inr rfl | exact bz_01) ?_
        exact ⟨by rw [bz_t (fun y hy => hk1 y (by omega))], rfl⟩
      · refine r_aload_n (pc2 := 11) dX0_showsEachView_10 rfl rfl ?_
        refine r_iload_n (pc2 := 12) dX0_showsEachView_11 rfl rfl ?_
        refine r_callv_1 (pc2 := 15) dX0_showsEachView_12 rfl rs_0_67 rfl (by decide) rfl (Nat.le_of_ble_eq_true rfl) (Nat.le_of_ble_eq_true rfl) (by assumption) (by assumption) (c_slicesShowing _ a ca sa v p sh ln pr gd co _ _ hC hK hS k (by unfold RG; omega)) (fun r_ w_ h_ => ?_)
        rw [h_.1, h_.2]
        clear h_ w_ r_
        refine ⟨rfl, ?_⟩
        have hcn := cnS_rg (s := s) (x := k) hp
        refine r_if_ne (pc2 := 18) (tgt := 20) dX0_showsEachView_15 rfl (by decide) (by omega) (fun h15 => ?_) (fun h15 => ?_)
        · refine r_iinc_1 (pc2 := 23) dX0_showsEachView_20 rfl rfl ?_
          refine r_goto (tgt := 2) dX0_showsEachView_23 (by decide) ?_
          exact ih (k + 1) (by omega) (fun y hy => by
            by_cases hyk : (y : Int) = k
            · rw [hyk]; exact h15
            · exact hk1 y (by omega))
        · refine r_iconst (pc2 := 19) dX0_showsEachView_18 rfl ?_
          refine r_retb dX0_showsEachView_19 rfl (by first | exact Or.inl rfl | exact Or.inr rfl | exact bz_01) ?_
          exact ⟨by rw [bz_f (fun q => q k.toNat (by omega) (by rw [tn hk0.1]; exact h15))], rfl⟩
  refine r_iconst (pc2 := 1) dX0_showsEachView_0 rfl ?_
  refine r_ist_1 (pc2 := 2) dX0_showsEachView_1 rfl rfl ?_
  exact loop (v.toNat + 1) 0 (by omega) (fun y hy => by omega)

set_option maxHeartbeats 4000000 in
theorem c_hasSlices (w : av_W) (a ca sa : Nat) (v p sh ln pr gd co : Int) (c s : Nat → Int) (hC : Cd w a ca sa v p sh ln pr gd co c s) (hK : KR v p sh ln) (hS : SR s) (b : Nat) (f : Nat → Int) (hb : b < w.1) (hbw : w.2.2 b = arO 6 f) (hF : ∀ j, j < 6 → 0 ≤ f j ∧ f j ≤ 3) : fn MX0_hasSlices [.ref a, .ref b] w (some (.int (iN (bz (∀ j : Nat, j < p.toNat → s j = f j))))) w := by
  obtain ⟨⟨ha, hw⟩, ⟨hca, hcw⟩, ⟨hsa, hsw⟩, hne1, hne2, hne3⟩ := id hC
  obtain ⟨hv, hp, hsh, hln⟩ := id hK
  try unfold RG at *
  show rn MX0_hasSlices 0 [some (.ref a), some (.ref b), none] [] w (fun r' w' => r' = (some (.int (iN (bz (∀ j : Nat, j < p.toNat → s j = f j))))) ∧ w' = w)
  have loop : ∀ (n : Nat) (k : Int), (0 ≤ k ∧ k ≤ p ∧ p + 1 ≤ k + n) → (∀ j : Nat, (j : Int) < k → s j = f j) → rn MX0_hasSlices 2 [some (.ref a), some (.ref b), some (.int (iN k))] [] w (fun r' w' => r' = (some (.int (iN (bz (∀ j : Nat, j < p.toNat → s j = f j))))) ∧ w' = w) := by
    intro n
    induction n with
    | zero =>
      intro k hk0 hk1
      exfalso
      omega
    | succ n ih =>
      intro k hk0 hk1
      refine r_iload_n (pc2 := 3) dX0_hasSlices_2 rfl rfl ?_
      refine r_aload_n (pc2 := 4) dX0_hasSlices_3 rfl rfl ?_
      refine r_getf (pc2 := 7) dX0_hasSlices_4 rfl fl_0_19 (by assumption) (by assumption) (by rfl) ?_
      refine r_icmp_ge (pc2 := 10) (tgt := 35) dX0_hasSlices_7 rfl (by decide) (by omega) (by omega) (fun h7 => ?_) (fun h7 => ?_)
      · refine r_iconst (pc2 := 36) dX0_hasSlices_35 rfl ?_
        refine r_retb dX0_hasSlices_36 rfl (by first | exact Or.inl rfl | exact Or.inr rfl | exact bz_01) ?_
        exact ⟨by rw [bz_t (fun j hj => hk1 j (by omega))], rfl⟩
      · refine r_iload_n (pc2 := 11) dX0_hasSlices_10 rfl rfl ?_
        refine r_aload_n (pc2 := 12) dX0_hasSlices_11 rfl rfl ?_
        refine r_alen (pc2 := 13) dX0_hasSlices_12 rfl (by decide) (by assumption) (by assumption) ?_
        refine r_icmp_ge (pc2 := 16) (tgt := 35) dX0_hasSlices_13 rfl (by decide) (by omega) (by omega) (fun h13 => ?_) (fun h13 => ?_)
        · exfalso
          omega
        · refine r_aload_n (pc2 := 17) dX0_hasSlices_16 rfl rfl ?_
          refine r_iload_n (pc2 := 18) dX0_hasSlices_17 rfl rfl ?_
          refine r_callv_1 (pc2 := 21) dX0_hasSlices_18 rfl rs_0_63 rfl (by decide) rfl (Nat.le_of_ble_eq_true rfl) (Nat.le_of_ble_eq_true rfl) (by assumption) (by assumption) (c_viewDueI _ a ca sa v p sh ln pr gd co _ _ hC hK k (by omega)) (fun r_ w_ h_ => ?_)
          rw [h_.1, h_.2]
          clear h_ w_ r_
          refine ⟨rfl, ?_⟩
          refine r_aload_n (pc2 := 22) dX0_hasSlices_21 rfl rfl ?_
          refine r_iload_n (pc2 := 23) dX0_hasSlices_22 rfl rfl ?_
          refine r_iald (pc2 := 24) dX0_hasSlices_23 rfl (by decide) (by assumption) (by assumption) (by omega) (by omega) (by omega) ?_
          have hsk := hS k.toNat (by omega)
          have hfk := hF k.toNat (by omega)
          refine r_icmp_eq (pc2 := 27) (tgt := 29) dX0_hasSlices_24 rfl (by decide) (by omega) (by omega) (fun h24 => ?_) (fun h24 => ?_)
          · refine r_iinc_2 (pc2 := 32) dX0_hasSlices_29 rfl rfl ?_
            refine r_goto (tgt := 2) dX0_hasSlices_32 (by decide) ?_
            exact ih (k + 1) (by omega) (fun j hj => by
              by_cases hjk : j = k.toNat
              · rw [hjk]; exact h24
              · exact hk1 j (by omega))
          · refine r_iconst (pc2 := 28) dX0_hasSlices_27 rfl ?_
            refine r_retb dX0_hasSlices_28 rfl (by first | exact Or.inl rfl | exact Or.inr rfl | exact bz_01) ?_
            exact ⟨by rw [bz_f (fun q => h24 (q k.toNat (by omega)))], rfl⟩
  refine r_iconst (pc2 := 1) dX0_hasSlices_0 rfl ?_
  refine r_ist_2 (pc2 := 2) dX0_hasSlices_1 rfl rfl ?_
  exact loop (p.toNat + 1) 0 (by omega) (fun j hj => by omega)

set_option maxHeartbeats 4000000 in
theorem c_highest (w : av_W) (a ca sa : Nat) (v p sh ln pr gd co : Int) (c s : Nat → Int) (hC : Cd w a ca sa v p sh ln pr gd co c s) (hK : KR v p sh ln) (hS : SR s) (x : Int) (hx : 0 ≤ x ∧ x ≤ 6) : fn MX0_highestViewBefore [.ref a, .int (iN x)] w (some (.int (iN (hg x.toNat s)))) w := by
  obtain ⟨⟨ha, hw⟩, ⟨hca, hcw⟩, ⟨hsa, hsw⟩, hne1, hne2, hne3⟩ := id hC
  obtain ⟨hv, hp, hsh, hln⟩ := id hK
  try unfold RG at *
  show rn MX0_highestViewBefore 0 [some (.ref a), some (.int (iN x)), none, none] [] w (fun r' w' => r' = (some (.int (iN (hg x.toNat s)))) ∧ w' = w)
  have loop : ∀ (n : Nat) (k : Int) (m : Int), (0 ≤ k ∧ k ≤ x ∧ x + 1 ≤ k + n) → (m = hg k.toNat s) → rn MX0_highestViewBefore 4 [some (.ref a), some (.int (iN x)), some (.int (iN m)), some (.int (iN k))] [] w (fun r' w' => r' = (some (.int (iN (hg x.toNat s)))) ∧ w' = w) := by
    intro n
    induction n with
    | zero =>
      intro k m hk0 hk1
      exfalso
      omega
    | succ n ih =>
      intro k m hk0 hk1
      refine r_iload_n (pc2 := 5) dX0_highestViewBefore_4 rfl rfl ?_
      refine r_iload_n (pc2 := 6) dX0_highestViewBefore_5 rfl rfl ?_
      refine r_icmp_ge (pc2 := 9) (tgt := 25) dX0_highestViewBefore_6 rfl (by decide) (by omega) (by omega) (fun h6 => ?_) (fun h6 => ?_)
      · have h6 : k = x := by omega
        subst h6
        refine r_iload_n (pc2 := 26) dX0_highestViewBefore_25 rfl rfl ?_
        refine r_ret dX0_highestViewBefore_26 rfl ?_
        exact ⟨by rw [hk1], rfl⟩
      · refine r_iload_n (pc2 := 10) dX0_highestViewBefore_9 rfl rfl ?_
        refine r_aload_n (pc2 := 11) dX0_highestViewBefore_10 rfl rfl ?_
        refine r_iload_n (pc2 := 12) dX0_highestViewBefore_11 rfl rfl ?_
        refine r_callv_1 (pc2 := 15) dX0_highestViewBefore_12 rfl rs_0_63 rfl (by decide) rfl (Nat.le_of_ble_eq_true rfl) (Nat.le_of_ble_eq_true rfl) (by assumption) (by assumption) (c_viewDueI _ a ca sa v p sh ln pr gd co _ _ hC hK k (by omega)) (fun r_ w_ h_ => ?_)
        rw [h_.1, h_.2]
        clear h_ w_ r_
        refine ⟨rfl, ?_⟩
        have hsk := hS k.toNat (by omega)
        have hmk := hg_rg k.toNat (by omega) hS
        rw [← hk1] at hmk
        refine r_mm (pc2 := 18) dX0_highestViewBefore_15 rfl mr_0_77 mm_0_77 (by decide) (Nat.le_of_ble_eq_true rfl) (by omega) (by omega) ?_
        refine r_ist_2 (pc2 := 19) dX0_highestViewBefore_18 rfl rfl ?_
        refine r_iinc_3 (pc2 := 22) dX0_highestViewBefore_19 rfl rfl ?_
        refine r_goto (tgt := 4) dX0_highestViewBefore_22 (by decide) ?_
        exact ih (k + 1) _ (by omega) (by rw [hg_step hk0.1, ← hk1]; rfl)
  refine r_iconst (pc2 := 1) dX0_highestViewBefore_0 rfl ?_
  refine r_ist_2 (pc2 := 2) dX0_highestViewBefore_1 rfl rfl ?_
  refine r_iconst (pc2 := 3) dX0_highestViewBefore_2 rfl ?_
  refine r_ist_3 (pc2 := 4) dX0_highestViewBefore_3 rfl rfl ?_
  exact loop (x.toNat + 1) 0 0 (by omega) rfl

def okN (v : Int) (s : Nat → Int) (i : Nat) : Prop := s i + 1 < v ∧ s i + 1 ≤ hg i s + 1
def nxF (p : Int) (s : Nat → Int) (i : Nat) (k : Int) : Nat → Int := fun j => if j = i then s i + 1 else if (i : Int) < (j : Int) ∧ (j : Int) < k then 0 else s j
theorem nxF_0 (p : Int) (s : Nat → Int) (i : Nat) : updZ s i (s i + 1) = nxF p s i (i + 1) := by
  funext j
  unfold updZ nxF
  by_cases h : j = i
  · rw [if_pos h, if_pos h]
  · rw [if_neg h, if_neg h, if_neg (by omega)]
theorem nxF_step {p k : Int} {s : Nat → Int} {i : Nat} (h : (i : Int) < k) : updZ (nxF p s i k) k.toNat 0 = nxF p s i (k + 1) := by
  funext j
  unfold updZ nxF
  by_cases h1 : j = k.toNat
  · subst h1
    rw [if_pos rfl, if_neg (by omega), if_pos (by omega)]
  · rw [if_neg h1]
    by_cases h2 : j = i
    · rw [if_pos h2, if_pos h2]
    · rw [if_neg h2, if_neg h2]
      by_cases h3 : (i : Int) < (j : Int) ∧ (j : Int) < k
      · rw [if_pos h3, if_pos (by omega)]
      · rw [if_neg h3, if_neg (by omega)]

set_option maxHeartbeats 4000000 in
theorem c_nextSlices (w : av_W) (a ca sa : Nat) (v p sh ln pr gd co : Int) (c s : Nat → Int) (hC : Cd w a ca sa v p sh ln pr gd co c s) (hK : KR v p sh ln) (hS : SR s) : cl MX0_nextSlices [.ref a] w (fun r' w' => (∃ i : Nat, 1 ≤ i ∧ (i : Int) < p ∧ okN v s i ∧ (∀ j : Nat, i < j → (j : Int) < p → ¬ okN v s j) ∧ r' = some (.int (iN 1)) ∧ w' = wst w sa (arO 6 (nxF p s i p))) ∨ ((∀ j : Nat, 1 ≤ j → (j : Int) < p → ¬ okN v s j) ∧ r' = some (.int (iN 0)) ∧ w' = w)) := by
  obtain ⟨⟨ha, hw⟩, ⟨hca, hcw⟩, ⟨hsa, hsw⟩, hne1, hne2, hne3⟩ := id hC
  obtain ⟨hv, hp, hsh, hln⟩ := id hK
  try unfold RG at *
  show rn MX0_nextSlices 0 [some (.ref a), none, none, none] [] w (fun r' w' => (∃ i : Nat, 1 ≤ i ∧ (i : Int) < p ∧ okN v s i ∧ (∀ j : Nat, i < j → (j : Int) < p → ¬ okN v s j) ∧ r' = some (.int (iN 1)) ∧ w' = wst w sa (arO 6 (nxF p s i p))) ∨ ((∀ j : Nat, 1 ≤ j → (j : Int) < p → ¬ okN v s j) ∧ r' = some (.int (iN 0)) ∧ w' = w))
  have loop2 : ∀ (n : Nat) (i : Nat) (x : Int) (k : Int), (((i : Int) + 1 ≤ k ∧ k ≤ p) ∧ p + 1 ≤ k + n) → (1 ≤ i ∧ (i : Int) < p) → (okN v s i) → (∀ j : Nat, i < j → (j : Int) < p → ¬ okN v s j) → rn MX0_nextSlices 48 [some (.ref a), some (.int (iN i)), some (.int (iN x)), some (.int (iN k))] [] (wst w sa (arO 6 (nxF p s i k))) (fun r' w' => (∃ i : Nat, 1 ≤ i ∧ (i : Int) < p ∧ okN v s i ∧ (∀ j : Nat, i < j → (j : Int) < p → ¬ okN v s j) ∧ r' = some (.int (iN 1)) ∧ w' = wst w sa (arO 6 (nxF p s i p))) ∨ ((∀ j : Nat, 1 ≤ j → (j : Int) < p → ¬ okN v s j) ∧ r' = some (.int (iN 0)) ∧ w' = w)) := by
    intro n
    induction n with
    | zero =>
      intro i x k hk0 hk1 hk2 hk3
      exfalso
      omega
    | succ n ih =>
      intro i x k hk0 hk1 hk2 hk3
      obtain ⟨⟨hqa, hqw⟩, -, ⟨hqs, hqz⟩, -⟩ := (hC.slc (nxF p s i k))
      refine r_iload_n (pc2 := 49) dX0_nextSlices_48 rfl rfl ?_
      refine r_aload_n (pc2 := 50) dX0_nextSlices_49 rfl rfl ?_
      refine r_getf (pc2 := 53) dX0_nextSlices_50 rfl fl_0_19 (by assumption) (by assumption) (by rfl) ?_
      refine r_icmp_ge (pc2 := 56) (tgt := 68) dX0_nextSlices_53 rfl (by decide) (by omega) (by omega) (fun h53 => ?_) (fun h53 => ?_)
      · have h6 : k = p := by omega
        subst h6
        refine r_iconst (pc2 := 69) dX0_nextSlices_68 rfl ?_
        refine r_retb dX0_nextSlices_69 rfl (by first | exact Or.inl rfl | exact Or.inr rfl | exact bz_01) ?_
        exact Or.inl ⟨i, hk1.1, hk1.2, hk2, hk3, rfl, rfl⟩
      · refine r_aload_n (pc2 := 57) dX0_nextSlices_56 rfl rfl ?_
        refine r_iload_n (pc2 := 58) dX0_nextSlices_57 rfl rfl ?_
        refine r_iconst (pc2 := 59) dX0_nextSlices_58 rfl ?_
        refine r_callv_2 (pc2 := 62) dX0_nextSlices_59 rfl rs_0_73 rfl (by decide) rfl (Nat.le_of_ble_eq_true rfl) (Nat.le_of_ble_eq_true rfl) (by assumption) (by assumption) (c_putSlice _ a ca sa v p sh ln pr gd co _ _ (hC.slc (nxF p s i k)) hK k 0 (by omega)) (fun r_ w_ h_ => ?_)
        rw [h_.1, h_.2]
        clear h_ w_ r_
        refine ⟨rfl, ?_⟩
        rw [wst_wst, nxF_step (by omega)]
        refine r_iinc_3 (pc2 := 65) dX0_nextSlices_62 rfl rfl ?_
        refine r_goto (tgt := 48) dX0_nextSlices_65 (by decide) ?_
        exact ih i x (k + 1) (by omega) hk1 hk2 hk3
  have loop : ∀ (n : Nat) (k : Int) (b2 : Option Value) (b3 : Option Value), (0 ≤ k ∧ k ≤ p - 1 ∧ k + 1 ≤ n) → (∀ j : Nat, k < (j : Int) → (j : Int) < p → ¬ okN v s j) → rn MX0_nextSlices 7 [some (.ref a), some (.int (iN k)), b2, b3] [] w (fun r' w' => (∃ i : Nat, 1 ≤ i ∧ (i : Int) < p ∧ okN v s i ∧ (∀ j : Nat, i < j → (j : Int) < p → ¬ okN v s j) ∧ r' = some (.int (iN 1)) ∧ w' = wst w sa (arO 6 (nxF p s i p))) ∨ ((∀ j : Nat, 1 ≤ j → (j : Int) < p → ¬ okN v s j) ∧ r' = some (.int (iN 0)) ∧ w' = w)) := by
    intro n
    induction n with
    | zero =>
      intro k b2 b3 hk0 hk1
      exfalso
      omega
    | succ n ih =>
      intro k b2 b3 hk0 hk1
      refine r_iload_n (pc2 := 8) dX0_nextSlices_7 rfl rfl ?_
      refine r_if_le (pc2 := 11) (tgt := 76) dX0_nextSlices_8 rfl (by decide) (by omega) (fun h8 => ?_) (fun h8 => ?_)
      · refine r_iconst (pc2 := 77) dX0_nextSlices_76 rfl ?_
        refine r_retb dX0_nextSlices_77 rfl (by first | exact Or.inl rfl | exact Or.inr rfl | exact bz_01) ?_
        exact Or.inr ⟨fun j hj hjp => hk1 j (by omega) hjp, rfl, rfl⟩
      · refine r_aload_n (pc2 := 12) dX0_nextSlices_11 rfl rfl ?_
        refine r_iload_n (pc2 := 13) dX0_nextSlices_12 rfl rfl ?_
        refine r_callv_1 (pc2 := 16) dX0_nextSlices_13 rfl rs_0_63 rfl (by decide) rfl (Nat.le_of_ble_eq_true rfl) (Nat.le_of_ble_eq_true rfl) (by assumption) (by assumption) (c_viewDueI _ a ca sa v p sh ln pr gd co _ _ hC hK k (by omega)) (fun r_ w_ h_ => ?_)
        rw [h_.1, h_.2]
        clear h_ w_ r_
        refine ⟨rfl, ?_⟩
        have hsk := hS k.toNat (by omega)
        refine r_iconst (pc2 := 17) dX0_nextSlices_16 rfl ?_
        refine r_iadd (pc2 := 18) dX0_nextSlices_17 rfl ?_
        refine r_ist_2 (pc2 := 19) dX0_nextSlices_18 rfl rfl ?_
        refine r_iload_n (pc2 := 20) dX0_nextSlices_19 rfl rfl ?_
        refine r_aload_n (pc2 := 21) dX0_nextSlices_20 rfl rfl ?_
        refine r_getf (pc2 := 24) dX0_nextSlices_21 rfl fl_0_9 (by assumption) (by assumption) (by rfl) ?_
        refine r_icmp_ge (pc2 := 27) (tgt := 70) dX0_nextSlices_24 rfl (by decide) (by omega) (by omega) (fun h24 => ?_) (fun h24 => ?_)
        · have hnk : ¬ okN v s k.toNat := fun q => by have := q.1; omega
          refine r_iinc_1 (pc2 := 73) dX0_nextSlices_70 rfl rfl ?_
          refine r_goto (tgt := 7) dX0_nextSlices_73 (by decide) ?_
          have hno : ∀ j : Nat, k + (-1) < (j : Int) → (j : Int) < p → ¬ okN v s j := fun j hj hjp => by
            by_cases hjk : j = k.toNat
            · subst hjk
              exact hnk
            · exact hk1 j (by omega) hjp
          exact ih (k + (-1)) _ _ (by omega) hno
        · refine r_iload_n (pc2 := 28) dX0_nextSlices_27 rfl rfl ?_
          refine r_aload_n (pc2 := 29) dX0_nextSlices_28 rfl rfl ?_
          refine r_iload_n (pc2 := 30) dX0_nextSlices_29 rfl rfl ?_
          refine r_callv_1 (pc2 := 33) dX0_nextSlices_30 rfl rs_0_70 rfl (by decide) rfl (Nat.le_of_ble_eq_true rfl) (Nat.le_of_ble_eq_true rfl) (by assumption) (by assumption) (c_highest _ a ca sa v p sh ln pr gd co _ _ hC hK hS k (by omega)) (fun r_ w_ h_ => ?_)
          rw [h_.1, h_.2]
          clear h_ w_ r_
          refine ⟨rfl, ?_⟩
          have hmk := hg_rg k.toNat (by omega) hS
          refine r_iconst (pc2 := 34) dX0_nextSlices_33 rfl ?_
          refine r_iadd (pc2 := 35) dX0_nextSlices_34 rfl ?_
          refine r_icmp_gt (pc2 := 38) (tgt := 70) dX0_nextSlices_35 rfl (by decide) (by omega) (by omega) (fun h35 => ?_) (fun h35 => ?_)
          · have hnk : ¬ okN v s k.toNat := fun q => by have := q.2; omega
            refine r_iinc_1 (pc2 := 73) dX0_nextSlices_70 rfl rfl ?_
            refine r_goto (tgt := 7) dX0_nextSlices_73 (by decide) ?_
            have hno : ∀ j : Nat, k + (-1) < (j : Int) → (j : Int) < p → ¬ okN v s j := fun j hj hjp => by
              by_cases hjk : j = k.toNat
              · subst hjk
                exact hnk
              · exact hk1 j (by omega) hjp
            exact ih (k + (-1)) _ _ (by omega) hno
          · obtain ⟨⟨hqa, hqw⟩, -, ⟨hqs, hqz⟩, -⟩ := (hC.slc (updZ s k.toNat (s k.toNat + 1)))
            refine r_aload_n (pc2 := 39) dX0_nextSlices_38 rfl rfl ?_
            refine r_iload_n (pc2 := 40) dX0_nextSlices_39 rfl rfl ?_
            refine r_iload_n (pc2 := 41) dX0_nextSlices_40 rfl rfl ?_
            refine r_callv_2 (pc2 := 44) dX0_nextSlices_41 rfl rs_0_73 rfl (by decide) rfl (Nat.le_of_ble_eq_true rfl) (Nat.le_of_ble_eq_true rfl) (by assumption) (by assumption) (c_putSlice _ a ca sa v p sh ln pr gd co _ _ hC hK k _ (by omega)) (fun r_ w_ h_ => ?_)
            rw [h_.1, h_.2]
            clear h_ w_ r_
            refine ⟨rfl, ?_⟩
            refine r_iload_n (pc2 := 45) dX0_nextSlices_44 rfl rfl ?_
            refine r_iconst (pc2 := 46) dX0_nextSlices_45 rfl ?_
            refine r_iadd (pc2 := 47) dX0_nextSlices_46 rfl ?_
            refine r_ist_3 (pc2 := 48) dX0_nextSlices_47 rfl rfl ?_
            have h2 := loop2 (p.toNat + 1) k.toNat (s k.toNat + 1) (k + 1) (by omega) (by omega) ⟨by omega, by omega⟩ (fun j hj hjp => hk1 j (by omega) hjp)
            rw [tn hk0.1] at h2
            rw [nxF_0 p, tn hk0.1]
            exact h2
  refine r_aload_n (pc2 := 1) dX0_nextSlices_0 rfl rfl ?_
  refine r_getf (pc2 := 4) dX0_nextSlices_1 rfl fl_0_19 (by assumption) (by assumption) (by rfl) ?_
  refine r_iconst (pc2 := 5) dX0_nextSlices_4 rfl ?_
  refine r_isub (pc2 := 6) dX0_nextSlices_5 rfl ?_
  refine r_ist_1 (pc2 := 7) dX0_nextSlices_6 rfl rfl ?_
  exact loop (p.toNat + 1) (p - 1) _ _ (by omega) (fun j hj hjp => by omega)
