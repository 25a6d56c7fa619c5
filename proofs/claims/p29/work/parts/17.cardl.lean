/-! the class's Card: more loops -/
def SR (s : Nat → Int) : Prop := ∀ j, j < 6 → 0 ≤ s j ∧ s j ≤ 3
def cnS (p : Int) (s : Nat → Int) (x : Int) : Int := sm p.toNat (fun j => bz (s j = x))
def hg : Nat → (Nat → Int) → Int
  | 0, _ => 0
  | n + 1, s => max (hg n s) (s n)
theorem hg_step {k : Int} (hk : 0 ≤ k) (s : Nat → Int) : hg (k + 1).toNat s = max (hg k.toNat s) (s k.toNat) := by
  rw [show (k + 1).toNat = k.toNat + 1 by omega]
  rfl
theorem hg_rg {s : Nat → Int} (n : Nat) (hn : n ≤ 6) (h : SR s) : 0 ≤ hg n s ∧ hg n s ≤ 3 := by
  induction n with
  | zero => simp [hg]
  | succ n ih =>
    have h1 := ih (by omega)
    have h2 := h n (by omega)
    show 0 ≤ max (hg n s) (s n) ∧ max (hg n s) (s n) ≤ 3
    omega
theorem cnS_rg {p x : Int} {s : Nat → Int} (hp : 2 ≤ p ∧ p ≤ 6) : 0 ≤ cnS p s x ∧ cnS p s x ≤ 6 := by
  have h := sm_rg (n := p.toNat) (f := fun j => bz (s j = x)) (L := 0) (H := 1) (fun j _ => bz_rg)
  unfold cnS
  rw [tn (by omega)] at h
  omega

set_option maxHeartbeats 4000000 in
theorem c_viewDueI (w : av_W) (a ca sa : Nat) (v p sh ln pr gd co : Int) (c s : Nat → Int) (hC : Cd w a ca sa v p sh ln pr gd co c s) (hK : KR v p sh ln) (x : Int) (hx : 0 ≤ x ∧ x ≤ 5) : fn MX0_viewDue [.ref a, .int (iN x)] w (some (.int (iN (s x.toNat)))) w := by
  obtain ⟨⟨ha, hw⟩, ⟨hca, hcw⟩, ⟨hsa, hsw⟩, hne1, hne2, hne3⟩ := id hC
  obtain ⟨hv, hp, hsh, hln⟩ := id hK
  try unfold RG at *
  show rn MX0_viewDue 0 [some (.ref a), some (.int (iN x))] [] w _
  refine r_iload_n (pc2 := 1) dX0_viewDue_0 rfl rfl ?_
  refine r_if_lt (pc2 := 4) (tgt := 10) dX0_viewDue_1 rfl (by decide) (by omega) (fun h1 => ?_) (fun h1 => ?_)
  · refine r_iconst (pc2 := 11) dX0_viewDue_10 rfl ?_
    refine r_ret dX0_viewDue_11 rfl ?_
    first | exact ⟨rfl, rfl⟩ | (exfalso; omega)
  · refine r_iload_n (pc2 := 5) dX0_viewDue_4 rfl rfl ?_
    refine r_bipush (pc2 := 7) dX0_viewDue_5 rfl (by decide) ?_
    refine r_icmp_lt (pc2 := 10) (tgt := 12) dX0_viewDue_7 rfl (by decide) (by omega) (by omega) (fun h7 => ?_) (fun h7 => ?_)
    · refine r_aload_n (pc2 := 13) dX0_viewDue_12 rfl rfl ?_
      refine r_getf (pc2 := 16) dX0_viewDue_13 rfl fl_0_22 (by assumption) (by assumption) (by rfl) ?_
      refine r_iload_n (pc2 := 17) dX0_viewDue_16 rfl rfl ?_
      refine r_iald (pc2 := 18) dX0_viewDue_17 rfl (by decide) (by assumption) (by assumption) (by omega) (by omega) (by omega) ?_
      refine r_ret dX0_viewDue_18 rfl ?_
      first | exact ⟨rfl, rfl⟩ | (exfalso; omega)
    · refine r_iconst (pc2 := 11) dX0_viewDue_10 rfl ?_
      refine r_ret dX0_viewDue_11 rfl ?_
      first | exact ⟨rfl, rfl⟩ | (exfalso; omega)

set_option maxHeartbeats 4000000 in
theorem c_slicesShowing (w : av_W) (a ca sa : Nat) (v p sh ln pr gd co : Int) (c s : Nat → Int) (hC : Cd w a ca sa v p sh ln pr gd co c s) (hK : KR v p sh ln) (hS : SR s) (x : Int) (hx : RG x) : fn MX0_slicesShowing [.ref a, .int (iN x)] w (some (.int (iN (cnS p s x)))) w := by
  obtain ⟨⟨ha, hw⟩, ⟨hca, hcw⟩, ⟨hsa, hsw⟩, hne1, hne2, hne3⟩ := id hC
  obtain ⟨hv, hp, hsh, hln⟩ := id hK
  try unfold RG at *
  show rn MX0_slicesShowing 0 [some (.ref a), some (.int (iN x)), none, none] [] w (fun r' w' => r' = (some (.int (iN (cnS p s x)))) ∧ w' = w)
  have loop : ∀ (n : Nat) (k : Int) (m : Int), (0 ≤ k ∧ k ≤ p ∧ p + 1 ≤ k + n) → (m = sm k.toNat (fun j => bz (s j = x))) → rn MX0_slicesShowing 4 [some (.ref a), some (.int (iN x)), some (.int (iN m)), some (.int (iN k))] [] w (fun r' w' => r' = (some (.int (iN (cnS p s x)))) ∧ w' = w) := by
    intro n
    induction n with
    | zero =>
      intro k m hk0 hk1
      exfalso
      omega
    | succ n ih =>
      intro k m hk0 hk1
      refine r_iload_n (pc2 := 5) dX0_slicesShowing_4 rfl rfl ?_
      refine r_aload_n (pc2 := 6) dX0_slicesShowing_5 rfl rfl ?_
      refine r_getf (pc2 := 9) dX0_slicesShowing_6 rfl fl_0_19 (by assumption) (by assumption) (by rfl) ?_
      refine r_icmp_ge (pc2 := 12) (tgt := 30) dX0_slicesShowing_9 rfl (by decide) (by omega) (by omega) (fun h9 => ?_) (fun h9 => ?_)
      · have h6 : k = p := by omega
        subst h6
        refine r_iload_n (pc2 := 31) dX0_slicesShowing_30 rfl rfl ?_
        refine r_ret dX0_slicesShowing_31 rfl ?_
        exact ⟨by rw [hk1]; rfl, rfl⟩
      · refine r_aload_n (pc2 := 13) dX0_slicesShowing_12 rfl rfl ?_
        refine r_iload_n (pc2 := 14) dX0_slicesShowing_13 rfl rfl ?_
        refine r_callv_1 (pc2 := 17) dX0_slicesShowing_14 rfl rs_0_63 rfl (by decide) rfl (Nat.le_of_ble_eq_true rfl) (Nat.le_of_ble_eq_true rfl) (by assumption) (by assumption) (c_viewDueI _ a ca sa v p sh ln pr gd co _ _ hC hK k (by omega)) (fun r_ w_ h_ => ?_)
        rw [h_.1, h_.2]
        clear h_ w_ r_
        refine ⟨rfl, ?_⟩
        have hsk := hS k.toNat (by omega)
        refine r_iload_n (pc2 := 18) dX0_slicesShowing_17 rfl rfl ?_
        refine r_icmp_ne (pc2 := 21) (tgt := 24) dX0_slicesShowing_18 rfl (by decide) (by omega) (by omega) (fun h18 => ?_) (fun h18 => ?_)
        · have hb : bz (s k.toNat = x) = 0 := bz_f h18
          rw [show m = m + 0 by omega]
          refine r_iinc_3 (pc2 := 27) dX0_slicesShowing_24 rfl rfl ?_
          refine r_goto (tgt := 4) dX0_slicesShowing_27 (by decide) ?_
          exact ih (k + 1) _ (by omega) (by rw [sm_step hk0.1, ← hk1, hb])
        · have hb : bz (s k.toNat = x) = 1 := bz_t h18
          refine r_iinc_2 (pc2 := 24) dX0_slicesShowing_21 rfl rfl ?_
          refine r_iinc_3 (pc2 := 27) dX0_slicesShowing_24 rfl rfl ?_
          refine r_goto (tgt := 4) dX0_slicesShowing_27 (by decide) ?_
          exact ih (k + 1) _ (by omega) (by rw [sm_step hk0.1, ← hk1, hb])
  refine r_iconst (pc2 := 1) dX0_slicesShowing_0 rfl ?_
  refine r_ist_2 (pc2 := 2) dX0_slicesShowing_1 rfl rfl ?_
  refine r_iconst (pc2 := 3) dX0_slicesShowing_2 rfl ?_
  refine r_ist_3 (pc2 := 4) dX0_slicesShowing_3 rfl rfl ?_
  exact loop (p.toNat + 1) 0 0 (by omega) rfl

def okN (v : Int) (s : Nat → Int) (i : Nat) : Prop := s i + 1 < v ∧ s i + 1 ≤ hg i s + 1
def nxF (p : Int) (s : Nat → Int) (i : Nat) (k : Int) : Nat → Int := fun j => if j = i then s i + 1 else if (i : Int) < (j : Int) ∧ (j : Int) < k then 0 else s j
theorem nxF_0 (p : Int) (s : Nat → Int) (i : Nat) : updZ s i (s i + 1) = nxF p s i (i + 1) := by
  funext j
  unfold updZ nxF
  by_cases h : j = i
  · rw [if_pos h, if_pos h]
  · rw [if_neg h, if_neg h, if_neg (by omega)]
theorem nxF_step {p k : Int} {s : Nat → Int} {i : Nat} (h : (i : Int) < k) : updZ (nxF p s i k) k.toNat 0 = nxF p s i (k + 1) := by
  funext j
  unfold updZ nxF
  by_cases h1 : j = k.toNat
  · subst h1
    rw [if_pos rfl, if_neg (by omega), if_pos (by omega)]
  · rw [if_neg h1]
    by_cases h2 : j = i
    · rw [if_pos h2, if_pos h2]
    · rw [if_neg h2, if_neg h2]
      by_cases h3 : (i : Int) < (j : Int) ∧ (j : Int) < k
      · rw [if_pos h3, if_pos (by omega)]
      · rw [if_neg h3, if_neg (by omega)]
