/-! the class's history -/
abbrev hsO (n : Int) : av_E := .inr (2, [.ref 15, .int (iN n)])
def rotK (k : Int) (F : Nat → Option Nat) : Nat → Option Nat := fun j => if (j : Int) + 1 < k then F (j + 1) else F j
def rotF (F : Nat → Option Nat) : Nat → Option Nat := fun j => if j < 3 then F (j + 1) else if j = 3 then F 0 else F j
theorem rotK_1 (F : Nat → Option Nat) : rotK 1 F = F := by
  funext j
  exact if_neg (by omega)
theorem rotK_step {k : Int} {F : Nat → Option Nat} (hk : 1 ≤ k) : va_up (rotK k F) (k - 1).toNat (F k.toNat) = rotK (k + 1) F := by
  funext j
  unfold va_up rotK
  by_cases h : j = (k - 1).toNat
  · subst h
    rw [if_pos rfl, if_pos (by omega)]
    congr 1
    omega
  · rw [if_neg h]
    by_cases h2 : (j : Int) + 1 < k
    · rw [if_pos h2, if_pos (by omega)]
    · rw [if_neg h2, if_neg (by omega)]
theorem rotK_end (F : Nat → Option Nat) : va_up (rotK 4 F) 3 (F 0) = rotF F := by
  funext j
  unfold va_up rotK rotF
  by_cases h : j = 3
  · subst h
    rw [if_pos rfl, if_neg (by omega), if_pos rfl]
  · rw [if_neg h]
    by_cases h2 : (j : Int) + 1 < 4
    · rw [if_pos h2, if_pos (by omega)]
    · rw [if_neg h2, if_neg (by omega), if_neg h]

set_option maxHeartbeats 4000000 in
theorem c_stateAt (w : av_W) (h33 : 33 ≤ w.1) (n : Int) (h14 : w.2.2 14 = hsO n) (F : Nat → Option Nat) (h15 : w.2.2 15 = rfO 4 F) (x : Int) (hx : 0 ≤ x ∧ x ≤ 3) (r : Nat) (hr : F x.toNat = some r) : fn MX2_stateAt [.ref 14, .int (iN x)] w (some (.ref r)) w := by
  have k14 : 14 < w.1 := by omega
  have k15 : 15 < w.1 := by omega
  show rn MX2_stateAt 0 [some (.ref 14), some (.int (iN x))] [] w _
  refine r_iload_n (pc2 := 1) dX2_stateAt_0 rfl rfl ?_
  refine r_if_lt (pc2 := 4) (tgt := 18) dX2_stateAt_1 rfl (by decide) (by omega) (fun h1 => ?_) (fun h1 => ?_)
  · exfalso
    omega
  · refine r_iload_n (pc2 := 5) dX2_stateAt_4 rfl rfl ?_
    refine r_iconst (pc2 := 6) dX2_stateAt_5 rfl ?_
    refine r_icmp_ge (pc2 := 9) (tgt := 18) dX2_stateAt_6 rfl (by decide) (by omega) (by omega) (fun h6 => ?_) (fun h6 => ?_)
    · exfalso
      omega
    · refine r_aload_n (pc2 := 10) dX2_stateAt_9 rfl rfl ?_
      refine r_getf (pc2 := 13) dX2_stateAt_10 rfl fl_2_11 (by assumption) (by assumption) (by rfl) ?_
      refine r_iload_n (pc2 := 14) dX2_stateAt_13 rfl rfl ?_
      refine r_aald (pc2 := 15) dX2_stateAt_14 rfl (by assumption) (by assumption) (by omega) (by omega) (by omega) (by assumption) ?_
      refine r_goto (tgt := 19) dX2_stateAt_15 (by decide) ?_
      refine r_reta dX2_stateAt_19 rfl ?_
      exact ⟨rfl, rfl⟩

set_option maxHeartbeats 4000000 in
theorem c_dropOldest (w : av_W) (h33 : 33 ≤ w.1) (nn : Int) (h14 : w.2.2 14 = hsO nn) (F : Nat → Option Nat) (h15 : w.2.2 15 = rfO 4 F) (hF : ∀ j : Nat, j < 4 → ∃ (r : Nat) (fs : List Value), F j = some r ∧ r < w.1 ∧ r ≠ 15 ∧ w.2.2 r = .inr (0, fs)) : fn MX2_dropOldest [.ref 14] w none (wst (wst w 15 (rfO 4 (rotF F))) 14 (hsO (nn - 1))) := by
  have k14 : 14 < w.1 := by omega
  have k15 : 15 < w.1 := by omega
  obtain ⟨r0, fs0, f0, f01, f02, f03⟩ := hF 0 (by decide)
  show rn MX2_dropOldest 0 [some (.ref 14), none, none] [] w (fun r' w' => r' = none ∧ w' = (wst (wst w 15 (rfO 4 (rotF F))) 14 (hsO (nn - 1))))
  have loop : ∀ (n : Nat) (k : Int), (1 ≤ k ∧ k ≤ 4 ∧ 5 ≤ k + n) → rn MX2_dropOldest 9 [some (.ref 14), some (.ref r0), some (.int (iN k))] [] (wst w 15 (rfO 4 (rotK k F))) (fun r' w' => r' = none ∧ w' = (wst (wst w 15 (rfO 4 (rotF F))) 14 (hsO (nn - 1)))) := by
    intro n
    induction n with
    | zero =>
      intro k hk0
      exfalso
      omega
    | succ n ih =>
      intro k hk0
      have q14 : 14 < (wst w 15 (rfO 4 (rotK k F))).1 := k14
      have q14w : (wst w 15 (rfO 4 (rotK k F))).2.2 14 = hsO nn := by rw [wst_ne (by decide)]; exact h14
      have q15 : 15 < (wst w 15 (rfO 4 (rotK k F))).1 := k15
      have q15w : (wst w 15 (rfO 4 (rotK k F))).2.2 15 = rfO 4 (rotK k F) := wst_self
      refine r_iload_n (pc2 := 10) dX2_dropOldest_9 rfl rfl ?_
      refine r_iconst (pc2 := 11) dX2_dropOldest_10 rfl ?_
      refine r_icmp_ge (pc2 := 14) (tgt := 34) dX2_dropOldest_11 rfl (by decide) (by omega) (by omega) (fun h11 => ?_) (fun h11 => ?_)
      · have h6 : k = 4 := by omega
        subst h6
        have gr1 : r0 < (wst w 15 (rfO 4 (rotK 4 F))).1 := f01
        have gr2 : (wst w 15 (rfO 4 (rotK 4 F))).2.2 r0 = .inr (0, fs0) := by rw [wst_ne f02]; exact f03
        refine r_aload_n (pc2 := 35) dX2_dropOldest_34 rfl rfl ?_
        refine r_getf (pc2 := 38) dX2_dropOldest_35 rfl fl_2_11 (by assumption) (by assumption) (by rfl) ?_
        refine r_iconst (pc2 := 39) dX2_dropOldest_38 rfl ?_
        refine r_aload_n (pc2 := 40) dX2_dropOldest_39 rfl rfl ?_
        refine r_aast (pc2 := 41) dX2_dropOldest_40 rfl (by assumption) (by assumption) (by omega) (by omega) (by omega) (by assumption) (by assumption) ?_
        rw [show (3 : Int).toNat = 3 from rfl, ← f0, rotK_end, wst_wst]
        have q14e : 14 < (wst w 15 (rfO 4 (rotF F))).1 := k14
        have q14we : (wst w 15 (rfO 4 (rotF F))).2.2 14 = hsO nn := by rw [wst_ne (by decide)]; exact h14
        refine r_aload_n (pc2 := 42) dX2_dropOldest_41 rfl rfl ?_
        refine r_dup (pc2 := 43) dX2_dropOldest_42 rfl rfl ?_
        refine r_getf (pc2 := 46) dX2_dropOldest_43 rfl fl_2_17 (by assumption) (by assumption) (by rfl) ?_
        refine r_iconst (pc2 := 47) dX2_dropOldest_46 rfl ?_
        refine r_isub (pc2 := 48) dX2_dropOldest_47 rfl ?_
        refine r_putf (pc2 := 51) dX2_dropOldest_48 rfl fl_2_17 (by assumption) (by assumption) (by exact Nat.le_of_ble_eq_true rfl) (by rfl) (by rfl) (by rfl) ?_
        refine r_retv dX2_dropOldest_51 rfl ?_
        exact ⟨rfl, rfl⟩
      · obtain ⟨r, fs, fr, fr1, fr2, fr3⟩ := hF k.toNat (by omega)
        have fk : rotK k F k.toNat = some r := by unfold rotK; rw [if_neg (by omega)]; exact fr
        have gr1 : r < (wst w 15 (rfO 4 (rotK k F))).1 := fr1
        have gr2 : (wst w 15 (rfO 4 (rotK k F))).2.2 r = .inr (0, fs) := by rw [wst_ne fr2]; exact fr3
        refine r_aload_n (pc2 := 15) dX2_dropOldest_14 rfl rfl ?_
        refine r_getf (pc2 := 18) dX2_dropOldest_15 rfl fl_2_11 (by assumption) (by assumption) (by rfl) ?_
        refine r_iload_n (pc2 := 19) dX2_dropOldest_18 rfl rfl ?_
        refine r_iconst (pc2 := 20) dX2_dropOldest_19 rfl ?_
        refine r_isub (pc2 := 21) dX2_dropOldest_20 rfl ?_
        refine r_aload_n (pc2 := 22) dX2_dropOldest_21 rfl rfl ?_
        refine r_getf (pc2 := 25) dX2_dropOldest_22 rfl fl_2_11 (by assumption) (by assumption) (by rfl) ?_
        refine r_iload_n (pc2 := 26) dX2_dropOldest_25 rfl rfl ?_
        refine r_aald (pc2 := 27) dX2_dropOldest_26 rfl (by assumption) (by assumption) (by omega) (by omega) (by omega) (by assumption) ?_
        refine r_aast (pc2 := 28) dX2_dropOldest_27 rfl (by assumption) (by assumption) (by omega) (by omega) (by omega) (by assumption) (by assumption) ?_
        rw [wst_wst, ← fr, rotK_step hk0.1]
        refine r_iinc_2 (pc2 := 31) dX2_dropOldest_28 rfl rfl ?_
        refine r_goto (tgt := 9) dX2_dropOldest_31 (by decide) ?_
        exact ih (k + 1) (by omega)
  refine r_aload_n (pc2 := 1) dX2_dropOldest_0 rfl rfl ?_
  refine r_getf (pc2 := 4) dX2_dropOldest_1 rfl fl_2_11 (by assumption) (by assumption) (by rfl) ?_
  refine r_iconst (pc2 := 5) dX2_dropOldest_4 rfl ?_
  refine r_aald (pc2 := 6) dX2_dropOldest_5 rfl (by assumption) (by assumption) (by omega) (by omega) (by omega) (by assumption) ?_
  refine r_ast_1 (pc2 := 7) dX2_dropOldest_6 rfl rfl ?_
  refine r_iconst (pc2 := 8) dX2_dropOldest_7 rfl ?_
  refine r_ist_2 (pc2 := 9) dX2_dropOldest_8 rfl rfl ?_
  have := loop 4 1 (by omega)
  rw [rotK_1, wst_id h15] at this
  exact this
