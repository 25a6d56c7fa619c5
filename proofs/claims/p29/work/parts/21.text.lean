/-! the class's CardText -/
abbrev txO (ch : Nat) (len k : Int) : av_E := .inr (1, [.ref ch, .int (iN len), .int (iN k)])
def Tx (w : av_W) (t ch : Nat) (len k : Int) (c : Nat → Int) : Prop := (t < w.1 ∧ w.2.2 t = txO ch len k) ∧ (ch < w.1 ∧ w.2.2 ch = chO 80 c) ∧ t ≠ ch
def CR (c : Nat → Int) : Prop := ∀ j, j < 80 → 0 ≤ c j ∧ c j ≤ 255
def chZ (c : Nat → Int) (i : Int) : Int := if 0 ≤ i ∧ i < 80 then c i.toNat else 0
def dgZ (c : Nat → Int) (i : Int) : Int := if 48 ≤ chZ c i ∧ chZ c i ≤ 57 then chZ c i - 48 else -1
abbrev alC (c : Nat → Int) (k i : Int) : Prop := if k = -1 then (if (i + 1) % 13 = 0 then (chZ c i = 47 ∧ (i + 1) / 13 < 4) ∨ (chZ c i = 58 ∧ 2 ≤ (i + 1) / 13) else dgZ c i ≠ -1) else i - k ≤ 6 ∧ 0 ≤ dgZ c i ∧ dgZ c i ≤ (k + 1) / 13 - 1
abbrev enC (len k : Int) : Prop := if k = -1 then (len + 1) % 13 = 0 ∧ 2 ≤ (len + 1) / 13 else 2 ≤ len - k - 1
def coF (c : Nat → Int) : Nat → Int
  | 0 => -1
  | n + 1 => if chZ c n = 58 then n else coF c n
theorem coF_rg (c : Nat → Int) (n : Nat) : -1 ≤ coF c n ∧ coF c n < n := by
  induction n with
  | zero => simp [coF]
  | succ n ih =>
    unfold coF
    split <;> omega
theorem chZ_rg {c : Nat → Int} (h : CR c) (i : Int) : 0 ≤ chZ c i ∧ chZ c i ≤ 255 := by
  unfold chZ
  split
  · exact h _ (by omega)
  · omega
theorem dgZ_rg {c : Nat → Int} (i : Int) : -1 ≤ dgZ c i ∧ dgZ c i ≤ 9 := by
  unfold dgZ
  split <;> omega
theorem iN_nI {y : Int} (h : 0 ≤ y) : iN y = nI y.toNat := by
  show Int32.ofInt y = Int32.ofNat y.toNat
  rw [← Int32.ofInt_eq_ofNat, tn h]
theorem vpc {y : Int} (h : 0 ≤ y ∧ y ≤ 65535) : vp_nar .char (iN y) = iN y := by
  rw [iN_nI h.1]
  unfold vp_nar
  rw [(pk_charN (q := y.toNat) (by omega)).1]

set_option maxHeartbeats 4000000 in
theorem c_isFull (w : av_W) (t ch : Nat) (len k : Int) (c : Nat → Int) (hT : Tx w t ch len k c) (hR : CR c) (hlen : 0 ≤ len ∧ len ≤ 80) : fn MX1_isFull [.ref t] w (some (.int (iN (bz (80 ≤ len))))) w := by
  obtain ⟨⟨ht, htw⟩, ⟨hch, hchw⟩, hne⟩ := id hT
  try unfold RG at *
  show rn MX1_isFull 0 [some (.ref t)] [] w _
  refine r_aload_n (pc2 := 1) dX1_isFull_0 rfl rfl ?_
  refine r_getf (pc2 := 4) dX1_isFull_1 rfl fl_1_15 (by assumption) (by assumption) (by rfl) ?_
  refine r_bipush (pc2 := 6) dX1_isFull_4 rfl (by decide) ?_
  refine r_icmp_lt (pc2 := 9) (tgt := 13) dX1_isFull_6 rfl (by decide) (by omega) (by omega) (fun h6 => ?_) (fun h6 => ?_)
  · refine r_iconst (pc2 := 14) dX1_isFull_13 rfl ?_
    refine r_retb dX1_isFull_14 rfl (by first | exact Or.inl rfl | exact Or.inr rfl | exact bz_01) ?_
    exact ⟨by first | rw [bz_t (by omega)] | rw [bz_f (by omega)], rfl⟩
  · refine r_iconst (pc2 := 10) dX1_isFull_9 rfl ?_
    refine r_goto (tgt := 14) dX1_isFull_10 (by decide) ?_
    refine r_retb dX1_isFull_14 rfl (by first | exact Or.inl rfl | exact Or.inr rfl | exact bz_01) ?_
    exact ⟨by first | rw [bz_t (by omega)] | rw [bz_f (by omega)], rfl⟩

set_option maxHeartbeats 4000000 in
theorem c_append (w : av_W) (t ch : Nat) (len k : Int) (c : Nat → Int) (hT : Tx w t ch len k c) (hR : CR c) (hlen : 0 ≤ len ∧ len ≤ 80) (x : Int) (hx : 0 ≤ x ∧ x ≤ 65535) (h80 : len < 80) : fn MX1_append [.ref t, .int (iN x)] w none (wst (wst w ch (chO 80 (updZ c len.toNat (if x ≤ 255 then x else 0)))) t (txO ch (len + 1) k)) := by
  obtain ⟨⟨ht, htw⟩, ⟨hch, hchw⟩, hne⟩ := id hT
  try unfold RG at *
  show rn MX1_append 0 [some (.ref t), some (.int (iN x))] [] w _
  refine r_aload_n (pc2 := 1) dX1_append_0 rfl rfl ?_
  refine r_getf (pc2 := 4) dX1_append_1 rfl fl_1_15 (by assumption) (by assumption) (by rfl) ?_
  refine r_if_lt (pc2 := 7) (tgt := 47) dX1_append_4 rfl (by decide) (by omega) (fun h4 => ?_) (fun h4 => ?_)
  · exfalso
    omega
  · refine r_aload_n (pc2 := 8) dX1_append_7 rfl rfl ?_
    refine r_getf (pc2 := 11) dX1_append_8 rfl fl_1_15 (by assumption) (by assumption) (by rfl) ?_
    refine r_bipush (pc2 := 13) dX1_append_11 rfl (by decide) ?_
    refine r_icmp_ge (pc2 := 16) (tgt := 47) dX1_append_13 rfl (by decide) (by omega) (by omega) (fun h13 => ?_) (fun h13 => ?_)
    · exfalso
      omega
    · refine r_aload_n (pc2 := 17) dX1_append_16 rfl rfl ?_
      refine r_getf (pc2 := 20) dX1_append_17 rfl fl_1_9 (by assumption) (by assumption) (by rfl) ?_
      refine r_aload_n (pc2 := 21) dX1_append_20 rfl rfl ?_
      refine r_getf (pc2 := 24) dX1_append_21 rfl fl_1_15 (by assumption) (by assumption) (by rfl) ?_
      refine r_iload_n (pc2 := 25) dX1_append_24 rfl rfl ?_
      refine r_sipush (pc2 := 28) dX1_append_25 rfl (by decide) ?_
      refine r_icmp_gt (pc2 := 31) (tgt := 35) dX1_append_28 rfl (by decide) (by omega) (by omega) (fun h28 => ?_) (fun h28 => ?_)
      · have hnar := vpc (y := 0) (by omega)
        have hz : (if x ≤ 255 then x else 0) = 0 := if_neg (by omega)
        rw [hz]
        have hw1 : t < (wst w ch (chO 80 (updZ c len.toNat 0))).1 := ht
        have hw2 : (wst w ch (chO 80 (updZ c len.toNat 0))).2.2 t = txO ch len k := by rw [wst_ne hne]; exact htw
        refine r_iconst (pc2 := 36) dX1_append_35 rfl ?_
        refine r_cast (pc2 := 37) dX1_append_36 rfl (by assumption) (by assumption) (by omega) (by omega) (by omega) (by assumption) ?_
        refine r_aload_n (pc2 := 38) dX1_append_37 rfl rfl ?_
        refine r_dup (pc2 := 39) dX1_append_38 rfl rfl ?_
        refine r_getf (pc2 := 42) dX1_append_39 rfl fl_1_15 (by assumption) (by assumption) (by rfl) ?_
        refine r_iconst (pc2 := 43) dX1_append_42 rfl ?_
        refine r_iadd (pc2 := 44) dX1_append_43 rfl ?_
        refine r_putf (pc2 := 47) dX1_append_44 rfl fl_1_15 (by assumption) (by assumption) (by exact Nat.le_of_ble_eq_true rfl) (by rfl) (by rfl) (by rfl) ?_
        refine r_retv dX1_append_47 rfl ?_
        exact ⟨rfl, rfl⟩
      · have hnar := vpc hx
        have hz : (if x ≤ 255 then x else 0) = x := if_pos (by omega)
        rw [hz]
        have hw1 : t < (wst w ch (chO 80 (updZ c len.toNat x))).1 := ht
        have hw2 : (wst w ch (chO 80 (updZ c len.toNat x))).2.2 t = txO ch len k := by rw [wst_ne hne]; exact htw
        refine r_iload_n (pc2 := 32) dX1_append_31 rfl rfl ?_
        refine r_goto (tgt := 36) dX1_append_32 (by decide) ?_
        refine r_cast (pc2 := 37) dX1_append_36 rfl (by assumption) (by assumption) (by omega) (by omega) (by omega) (by assumption) ?_
        refine r_aload_n (pc2 := 38) dX1_append_37 rfl rfl ?_
        refine r_dup (pc2 := 39) dX1_append_38 rfl rfl ?_
        refine r_getf (pc2 := 42) dX1_append_39 rfl fl_1_15 (by assumption) (by assumption) (by rfl) ?_
        refine r_iconst (pc2 := 43) dX1_append_42 rfl ?_
        refine r_iadd (pc2 := 44) dX1_append_43 rfl ?_
        refine r_putf (pc2 := 47) dX1_append_44 rfl fl_1_15 (by assumption) (by assumption) (by exact Nat.le_of_ble_eq_true rfl) (by rfl) (by rfl) (by rfl) ?_
        refine r_retv dX1_append_47 rfl ?_
        exact ⟨rfl, rfl⟩

set_option maxHeartbeats 4000000 in
theorem c_empty (w : av_W) (t ch : Nat) (len k : Int) (ht : t < w.1) (htw : w.2.2 t = txO ch len k) : fn MX1_empty [.ref t] w none (wst w t (txO ch 0 k)) := by
  show rn MX1_empty 0 [some (.ref t)] [] w _
  refine r_aload_n (pc2 := 1) dX1_empty_0 rfl rfl ?_
  refine r_iconst (pc2 := 2) dX1_empty_1 rfl ?_
  refine r_putf (pc2 := 5) dX1_empty_2 rfl fl_1_15 (by assumption) (by assumption) (by exact Nat.le_of_ble_eq_true rfl) (by rfl) (by rfl) (by rfl) ?_
  refine r_retv dX1_empty_5 rfl ?_
  exact ⟨rfl, rfl⟩

set_option maxHeartbeats 4000000 in
theorem c_charAt (w : av_W) (t ch : Nat) (len k : Int) (c : Nat → Int) (hT : Tx w t ch len k c) (hR : CR c) (hlen : 0 ≤ len ∧ len ≤ 80) (x : Int) (hx : RG x) : fn MX1_charAt [.ref t, .int (iN x)] w (some (.int (iN (chZ c x)))) w := by
  obtain ⟨⟨ht, htw⟩, ⟨hch, hchw⟩, hne⟩ := id hT
  try unfold RG at *
  show rn MX1_charAt 0 [some (.ref t), some (.int (iN x))] [] w _
  refine r_iload_n (pc2 := 1) dX1_charAt_0 rfl rfl ?_
  refine r_if_lt (pc2 := 4) (tgt := 19) dX1_charAt_1 rfl (by decide) (by omega) (fun h1 => ?_) (fun h1 => ?_)
  · refine r_iconst (pc2 := 20) dX1_charAt_19 rfl ?_
    refine r_retc dX1_charAt_20 rfl (by omega) ?_
    exact ⟨by unfold chZ; first | rw [if_pos (by omega)] | rw [if_neg (by omega)], rfl⟩
  · refine r_iload_n (pc2 := 5) dX1_charAt_4 rfl rfl ?_
    refine r_bipush (pc2 := 7) dX1_charAt_5 rfl (by decide) ?_
    refine r_icmp_ge (pc2 := 10) (tgt := 19) dX1_charAt_7 rfl (by decide) (by omega) (by omega) (fun h7 => ?_) (fun h7 => ?_)
    · refine r_iconst (pc2 := 20) dX1_charAt_19 rfl ?_
      refine r_retc dX1_charAt_20 rfl (by omega) ?_
      exact ⟨by unfold chZ; first | rw [if_pos (by omega)] | rw [if_neg (by omega)], rfl⟩
    · refine r_aload_n (pc2 := 11) dX1_charAt_10 rfl rfl ?_
      refine r_getf (pc2 := 14) dX1_charAt_11 rfl fl_1_9 (by assumption) (by assumption) (by rfl) ?_
      refine r_iload_n (pc2 := 15) dX1_charAt_14 rfl rfl ?_
      refine r_cald (pc2 := 16) dX1_charAt_15 rfl (by assumption) (by assumption) (by omega) (by omega) (by omega) ?_
      have hcx := hR x.toNat (by omega)
      refine r_goto (tgt := 20) dX1_charAt_16 (by decide) ?_
      refine r_retc dX1_charAt_20 rfl (by omega) ?_
      exact ⟨by unfold chZ; first | rw [if_pos (by omega)] | rw [if_neg (by omega)], rfl⟩

set_option maxHeartbeats 4000000 in
theorem c_digitAt (w : av_W) (t ch : Nat) (len k : Int) (c : Nat → Int) (hT : Tx w t ch len k c) (hR : CR c) (hlen : 0 ≤ len ∧ len ≤ 80) (x : Int) (hx : RG x) : fn MX1_digitAt [.ref t, .int (iN x)] w (some (.int (iN (dgZ c x)))) w := by
  obtain ⟨⟨ht, htw⟩, ⟨hch, hchw⟩, hne⟩ := id hT
  try unfold RG at *
  have hcr := chZ_rg hR x
  show rn MX1_digitAt 0 [some (.ref t), some (.int (iN x)), none] [] w _
  refine r_aload_n (pc2 := 1) dX1_digitAt_0 rfl rfl ?_
  refine r_iload_n (pc2 := 2) dX1_digitAt_1 rfl rfl ?_
  refine r_callv_1 (pc2 := 5) dX1_digitAt_2 rfl rs_1_22 rfl (by decide) rfl (Nat.le_of_ble_eq_true rfl) (Nat.le_of_ble_eq_true rfl) (by assumption) (by assumption) (c_charAt _ t ch len k c hT hR hlen x (by unfold RG; omega)) (fun r_ w_ h_ => ?_)
  rw [h_.1, h_.2]
  clear h_ w_ r_
  refine ⟨rfl, ?_⟩
  refine r_ist_2 (pc2 := 6) dX1_digitAt_5 rfl rfl ?_
  refine r_iload_n (pc2 := 7) dX1_digitAt_6 rfl rfl ?_
  refine r_bipush (pc2 := 9) dX1_digitAt_7 rfl (by decide) ?_
  refine r_icmp_lt (pc2 := 12) (tgt := 25) dX1_digitAt_9 rfl (by decide) (by omega) (by omega) (fun h9 => ?_) (fun h9 => ?_)
  · refine r_iconst (pc2 := 26) dX1_digitAt_25 rfl ?_
    refine r_ret dX1_digitAt_26 rfl ?_
    exact ⟨by unfold dgZ; first | rw [if_pos (by omega)] | rw [if_neg (by omega)], rfl⟩
  · refine r_iload_n (pc2 := 13) dX1_digitAt_12 rfl rfl ?_
    refine r_bipush (pc2 := 15) dX1_digitAt_13 rfl (by decide) ?_
    refine r_icmp_gt (pc2 := 18) (tgt := 25) dX1_digitAt_15 rfl (by decide) (by omega) (by omega) (fun h15 => ?_) (fun h15 => ?_)
    · refine r_iconst (pc2 := 26) dX1_digitAt_25 rfl ?_
      refine r_ret dX1_digitAt_26 rfl ?_
      exact ⟨by unfold dgZ; first | rw [if_pos (by omega)] | rw [if_neg (by omega)], rfl⟩
    · refine r_iload_n (pc2 := 19) dX1_digitAt_18 rfl rfl ?_
      refine r_bipush (pc2 := 21) dX1_digitAt_19 rfl (by decide) ?_
      refine r_isub (pc2 := 22) dX1_digitAt_21 rfl ?_
      refine r_goto (tgt := 26) dX1_digitAt_22 (by decide) ?_
      refine r_ret dX1_digitAt_26 rfl ?_
      exact ⟨by unfold dgZ; first | rw [if_pos (by omega)] | rw [if_neg (by omega)], rfl⟩

set_option maxHeartbeats 4000000 in
theorem c_viewsUpTo (w : av_W) (x : Int) (hx : -1 ≤ x ∧ x ≤ 1000) : fn MX1_viewsUpTo [.int (iN x)] w (some (.int (iN ((x + 1) / 13)))) w := by
  show rn MX1_viewsUpTo 0 [some (.int (iN x))] [] w _
  refine r_iload_n (pc2 := 1) dX1_viewsUpTo_0 rfl rfl ?_
  refine r_iconst (pc2 := 2) dX1_viewsUpTo_1 rfl ?_
  refine r_iadd (pc2 := 3) dX1_viewsUpTo_2 rfl ?_
  refine r_bipush (pc2 := 5) dX1_viewsUpTo_3 rfl (by decide) ?_
  refine r_idiv (pc2 := 6) dX1_viewsUpTo_5 rfl (by omega) (by omega) (by omega) (by omega) ?_
  refine r_ret dX1_viewsUpTo_6 rfl ?_
  exact ⟨by rw [Int.tdiv_eq_ediv_of_nonneg (by omega)], rfl⟩

set_option maxHeartbeats 4000000 in
theorem c_isAllowed (w : av_W) (t ch : Nat) (len k : Int) (c : Nat → Int) (hT : Tx w t ch len k c) (hR : CR c) (hlen : 0 ≤ len ∧ len ≤ 80) (hk : -1 ≤ k ∧ k ≤ 80) (x : Int) (hx : 0 ≤ x ∧ x ≤ 80) : fn MX1_isAllowed [.ref t, .int (iN x)] w (some (.int (iN (bz (alC c k x))))) w := by
  obtain ⟨⟨ht, htw⟩, ⟨hch, hchw⟩, hne⟩ := id hT
  try unfold RG at *
  have hcr := chZ_rg hR x
  have hdr := dgZ_rg (c := c) x
  show rn MX1_isAllowed 0 [some (.ref t), some (.int (iN x))] [] w _
  refine r_aload_n (pc2 := 1) dX1_isAllowed_0 rfl rfl ?_
  refine r_getf (pc2 := 4) dX1_isAllowed_1 rfl fl_1_19 (by assumption) (by assumption) (by rfl) ?_
  refine r_iconst (pc2 := 5) dX1_isAllowed_4 rfl ?_
  refine r_icmp_eq (pc2 := 8) (tgt := 46) dX1_isAllowed_5 rfl (by decide) (by omega) (by omega) (fun h5 => ?_) (fun h5 => ?_)
  · refine r_iload_n (pc2 := 47) dX1_isAllowed_46 rfl rfl ?_
    refine r_iconst (pc2 := 48) dX1_isAllowed_47 rfl ?_
    refine r_iadd (pc2 := 49) dX1_isAllowed_48 rfl ?_
    refine r_bipush (pc2 := 51) dX1_isAllowed_49 rfl (by decide) ?_
    refine r_irem (pc2 := 52) dX1_isAllowed_51 rfl (by omega) (by omega) (by omega) (by omega) ?_
    rw [Int.tmod_eq_emod_of_nonneg (by omega)]
    refine r_if_eq (pc2 := 55) (tgt := 70) dX1_isAllowed_52 rfl (by decide) (by omega) (fun h52 => ?_) (fun h52 => ?_)
    · refine r_aload_n (pc2 := 71) dX1_isAllowed_70 rfl rfl ?_
      refine r_iload_n (pc2 := 72) dX1_isAllowed_71 rfl rfl ?_
      refine r_callv_1 (pc2 := 75) dX1_isAllowed_72 rfl rs_1_22 rfl (by decide) rfl (Nat.le_of_ble_eq_true rfl) (Nat.le_of_ble_eq_true rfl) (by assumption) (by assumption) (c_charAt _ t ch len k c hT hR hlen x (by unfold RG; omega)) (fun r_ w_ h_ => ?_)
      rw [h_.1, h_.2]
      clear h_ w_ r_
      refine ⟨rfl, ?_⟩
      refine r_bipush (pc2 := 77) dX1_isAllowed_75 rfl (by decide) ?_
      refine r_icmp_ne (pc2 := 80) (tgt := 88) dX1_isAllowed_77 rfl (by decide) (by omega) (by omega) (fun h77 => ?_) (fun h77 => ?_)
      · refine r_aload_n (pc2 := 89) dX1_isAllowed_88 rfl rfl ?_
        refine r_iload_n (pc2 := 90) dX1_isAllowed_89 rfl rfl ?_
        refine r_callv_1 (pc2 := 93) dX1_isAllowed_90 rfl rs_1_22 rfl (by decide) rfl (Nat.le_of_ble_eq_true rfl) (Nat.le_of_ble_eq_true rfl) (by assumption) (by assumption) (c_charAt _ t ch len k c hT hR hlen x (by unfold RG; omega)) (fun r_ w_ h_ => ?_)
        rw [h_.1, h_.2]
        clear h_ w_ r_
        refine ⟨rfl, ?_⟩
        refine r_bipush (pc2 := 95) dX1_isAllowed_93 rfl (by decide) ?_
        refine r_icmp_ne (pc2 := 98) (tgt := 110) dX1_isAllowed_95 rfl (by decide) (by omega) (by omega) (fun h95 => ?_) (fun h95 => ?_)
        · refine r_iconst (pc2 := 111) dX1_isAllowed_110 rfl ?_
          refine r_retb dX1_isAllowed_111 rfl (by first | exact Or.inl rfl | exact Or.inr rfl | exact bz_01) ?_
          exact ⟨by first | (exfalso; omega) | rw [bz_t (by unfold alC; first | (rw [if_pos (by omega), if_pos (by omega)]; omega) | (rw [if_pos (by omega), if_neg (by omega)]; omega) | (rw [if_neg (by omega)]; omega))] | rw [bz_f (by unfold alC; first | (rw [if_pos (by omega), if_pos (by omega)]; omega) | (rw [if_pos (by omega), if_neg (by omega)]; omega) | (rw [if_neg (by omega)]; omega))], rfl⟩
        · refine r_iload_n (pc2 := 99) dX1_isAllowed_98 rfl rfl ?_
          refine r_calls_1 (pc2 := 102) dX1_isAllowed_99 rfl rs_1_38 rfl (by decide) rfl (Nat.le_of_ble_eq_true rfl) (Nat.le_of_ble_eq_true rfl) (c_viewsUpTo _ x (by omega)) (fun r_ w_ h_ => ?_)
          rw [h_.1, h_.2]
          clear h_ w_ r_
          refine ⟨rfl, ?_⟩
          refine r_iconst (pc2 := 103) dX1_isAllowed_102 rfl ?_
          refine r_icmp_lt (pc2 := 106) (tgt := 110) dX1_isAllowed_103 rfl (by decide) (by omega) (by omega) (fun h103 => ?_) (fun h103 => ?_)
          · refine r_iconst (pc2 := 111) dX1_isAllowed_110 rfl ?_
            refine r_retb dX1_isAllowed_111 rfl (by first | exact Or.inl rfl | exact Or.inr rfl | exact bz_01) ?_
            exact ⟨by first | (exfalso; omega) | rw [bz_t (by unfold alC; first | (rw [if_pos (by omega), if_pos (by omega)]; omega) | (rw [if_pos (by omega), if_neg (by omega)]; omega) | (rw [if_neg (by omega)]; omega))] | rw [bz_f (by unfold alC; first | (rw [if_pos (by omega), if_pos (by omega)]; omega) | (rw [if_pos (by omega), if_neg (by omega)]; omega) | (rw [if_neg (by omega)]; omega))], rfl⟩
          · refine r_iconst (pc2 := 107) dX1_isAllowed_106 rfl ?_
            refine r_goto (tgt := 111) dX1_isAllowed_107 (by decide) ?_
            refine r_retb dX1_isAllowed_111 rfl (by first | exact Or.inl rfl | exact Or.inr rfl | exact bz_01) ?_
            exact ⟨by first | (exfalso; omega) | rw [bz_t (by unfold alC; first | (rw [if_pos (by omega), if_pos (by omega)]; omega) | (rw [if_pos (by omega), if_neg (by omega)]; omega) | (rw [if_neg (by omega)]; omega))] | rw [bz_f (by unfold alC; first | (rw [if_pos (by omega), if_pos (by omega)]; omega) | (rw [if_pos (by omega), if_neg (by omega)]; omega) | (rw [if_neg (by omega)]; omega))], rfl⟩
      · refine r_iload_n (pc2 := 81) dX1_isAllowed_80 rfl rfl ?_
        refine r_calls_1 (pc2 := 84) dX1_isAllowed_81 rfl rs_1_38 rfl (by decide) rfl (Nat.le_of_ble_eq_true rfl) (Nat.le_of_ble_eq_true rfl) (c_viewsUpTo _ x (by omega)) (fun r_ w_ h_ => ?_)
        rw [h_.1, h_.2]
        clear h_ w_ r_
        refine ⟨rfl, ?_⟩
        refine r_iconst (pc2 := 85) dX1_isAllowed_84 rfl ?_
        refine r_icmp_lt (pc2 := 88) (tgt := 106) dX1_isAllowed_85 rfl (by decide) (by omega) (by omega) (fun h85 => ?_) (fun h85 => ?_)
        · refine r_iconst (pc2 := 107) dX1_isAllowed_106 rfl ?_
          refine r_goto (tgt := 111) dX1_isAllowed_107 (by decide) ?_
          refine r_retb dX1_isAllowed_111 rfl (by first | exact Or.inl rfl | exact Or.inr rfl | exact bz_01) ?_
          exact ⟨by first | (exfalso; omega) | rw [bz_t (by unfold alC; first | (rw [if_pos (by omega), if_pos (by omega)]; omega) | (rw [if_pos (by omega), if_neg (by omega)]; omega) | (rw [if_neg (by omega)]; omega))] | rw [bz_f (by unfold alC; first | (rw [if_pos (by omega), if_pos (by omega)]; omega) | (rw [if_pos (by omega), if_neg (by omega)]; omega) | (rw [if_neg (by omega)]; omega))], rfl⟩
        · refine r_aload_n (pc2 := 89) dX1_isAllowed_88 rfl rfl ?_
          refine r_iload_n (pc2 := 90) dX1_isAllowed_89 rfl rfl ?_
          refine r_callv_1 (pc2 := 93) dX1_isAllowed_90 rfl rs_1_22 rfl (by decide) rfl (Nat.le_of_ble_eq_true rfl) (Nat.le_of_ble_eq_true rfl) (by assumption) (by assumption) (c_charAt _ t ch len k c hT hR hlen x (by unfold RG; omega)) (fun r_ w_ h_ => ?_)
          rw [h_.1, h_.2]
          clear h_ w_ r_
          refine ⟨rfl, ?_⟩
          refine r_bipush (pc2 := 95) dX1_isAllowed_93 rfl (by decide) ?_
          refine r_icmp_ne (pc2 := 98) (tgt := 110) dX1_isAllowed_95 rfl (by decide) (by omega) (by omega) (fun h95 => ?_) (fun h95 => ?_)
          · refine r_iconst (pc2 := 111) dX1_isAllowed_110 rfl ?_
            refine r_retb dX1_isAllowed_111 rfl (by first | exact Or.inl rfl | exact Or.inr rfl | exact bz_01) ?_
            exact ⟨by first | (exfalso; omega) | rw [bz_t (by unfold alC; first | (rw [if_pos (by omega), if_pos (by omega)]; omega) | (rw [if_pos (by omega), if_neg (by omega)]; omega) | (rw [if_neg (by omega)]; omega))] | rw [bz_f (by unfold alC; first | (rw [if_pos (by omega), if_pos (by omega)]; omega) | (rw [if_pos (by omega), if_neg (by omega)]; omega) | (rw [if_neg (by omega)]; omega))], rfl⟩
          · refine r_iload_n (pc2 := 99) dX1_isAllowed_98 rfl rfl ?_
            refine r_calls_1 (pc2 := 102) dX1_isAllowed_99 rfl rs_1_38 rfl (by decide) rfl (Nat.le_of_ble_eq_true rfl) (Nat.le_of_ble_eq_true rfl) (c_viewsUpTo _ x (by omega)) (fun r_ w_ h_ => ?_)
            rw [h_.1, h_.2]
            clear h_ w_ r_
            refine ⟨rfl, ?_⟩
            refine r_iconst (pc2 := 103) dX1_isAllowed_102 rfl ?_
            refine r_icmp_lt (pc2 := 106) (tgt := 110) dX1_isAllowed_103 rfl (by decide) (by omega) (by omega) (fun h103 => ?_) (fun h103 => ?_)
            · refine r_iconst (pc2 := 111) dX1_isAllowed_110 rfl ?_
              refine r_retb dX1_isAllowed_111 rfl (by first | exact Or.inl rfl | exact Or.inr rfl | exact bz_01) ?_
              exact ⟨by first | (exfalso; omega) | rw [bz_t (by unfold alC; first | (rw [if_pos (by omega), if_pos (by omega)]; omega) | (rw [if_pos (by omega), if_neg (by omega)]; omega) | (rw [if_neg (by omega)]; omega))] | rw [bz_f (by unfold alC; first | (rw [if_pos (by omega), if_pos (by omega)]; omega) | (rw [if_pos (by omega), if_neg (by omega)]; omega) | (rw [if_neg (by omega)]; omega))], rfl⟩
            · refine r_iconst (pc2 := 107) dX1_isAllowed_106 rfl ?_
              refine r_goto (tgt := 111) dX1_isAllowed_107 (by decide) ?_
              refine r_retb dX1_isAllowed_111 rfl (by first | exact Or.inl rfl | exact Or.inr rfl | exact bz_01) ?_
              exact ⟨by first | (exfalso; omega) | rw [bz_t (by unfold alC; first | (rw [if_pos (by omega), if_pos (by omega)]; omega) | (rw [if_pos (by omega), if_neg (by omega)]; omega) | (rw [if_neg (by omega)]; omega))] | rw [bz_f (by unfold alC; first | (rw [if_pos (by omega), if_pos (by omega)]; omega) | (rw [if_pos (by omega), if_neg (by omega)]; omega) | (rw [if_neg (by omega)]; omega))], rfl⟩
    · refine r_aload_n (pc2 := 56) dX1_isAllowed_55 rfl rfl ?_
      refine r_iload_n (pc2 := 57) dX1_isAllowed_56 rfl rfl ?_
      refine r_callv_1 (pc2 := 60) dX1_isAllowed_57 rfl rs_1_34 rfl (by decide) rfl (Nat.le_of_ble_eq_true rfl) (Nat.le_of_ble_eq_true rfl) (by assumption) (by assumption) (c_digitAt _ t ch len k c hT hR hlen x (by unfold RG; omega)) (fun r_ w_ h_ => ?_)
      rw [h_.1, h_.2]
      clear h_ w_ r_
      refine ⟨rfl, ?_⟩
      refine r_iconst (pc2 := 61) dX1_isAllowed_60 rfl ?_
      refine r_icmp_eq (pc2 := 64) (tgt := 68) dX1_isAllowed_61 rfl (by decide) (by omega) (by omega) (fun h61 => ?_) (fun h61 => ?_)
      · refine r_iconst (pc2 := 69) dX1_isAllowed_68 rfl ?_
        refine r_retb dX1_isAllowed_69 rfl (by first | exact Or.inl rfl | exact Or.inr rfl | exact bz_01) ?_
        exact ⟨by first | (exfalso; omega) | rw [bz_t (by unfold alC; first | (rw [if_pos (by omega), if_pos (by omega)]; omega) | (rw [if_pos (by omega), if_neg (by omega)]; omega) | (rw [if_neg (by omega)]; omega))] | rw [bz_f (by unfold alC; first | (rw [if_pos (by omega), if_pos (by omega)]; omega) | (rw [if_pos (by omega), if_neg (by omega)]; omega) | (rw [if_neg (by omega)]; omega))], rfl⟩
      · refine r_iconst (pc2 := 65) dX1_isAllowed_64 rfl ?_
        refine r_goto (tgt := 69) dX1_isAllowed_65 (by decide) ?_
        refine r_retb dX1_isAllowed_69 rfl (by first | exact Or.inl rfl | exact Or.inr rfl | exact bz_01) ?_
        exact ⟨by first | (exfalso; omega) | rw [bz_t (by unfold alC; first | (rw [if_pos (by omega), if_pos (by omega)]; omega) | (rw [if_pos (by omega), if_neg (by omega)]; omega) | (rw [if_neg (by omega)]; omega))] | rw [bz_f (by unfold alC; first | (rw [if_pos (by omega), if_pos (by omega)]; omega) | (rw [if_pos (by omega), if_neg (by omega)]; omega) | (rw [if_neg (by omega)]; omega))], rfl⟩
  · refine r_iload_n (pc2 := 9) dX1_isAllowed_8 rfl rfl ?_
    refine r_aload_n (pc2 := 10) dX1_isAllowed_9 rfl rfl ?_
    refine r_getf (pc2 := 13) dX1_isAllowed_10 rfl fl_1_19 (by assumption) (by assumption) (by rfl) ?_
    refine r_isub (pc2 := 14) dX1_isAllowed_13 rfl ?_
    refine r_bipush (pc2 := 16) dX1_isAllowed_14 rfl (by decide) ?_
    refine r_icmp_gt (pc2 := 19) (tgt := 44) dX1_isAllowed_16 rfl (by decide) (by omega) (by omega) (fun h16 => ?_) (fun h16 => ?_)
    · refine r_iconst (pc2 := 45) dX1_isAllowed_44 rfl ?_
      refine r_retb dX1_isAllowed_45 rfl (by first | exact Or.inl rfl | exact Or.inr rfl | exact bz_01) ?_
      exact ⟨by first | (exfalso; omega) | rw [bz_t (by unfold alC; first | (rw [if_pos (by omega), if_pos (by omega)]; omega) | (rw [if_pos (by omega), if_neg (by omega)]; omega) | (rw [if_neg (by omega)]; omega))] | rw [bz_f (by unfold alC; first | (rw [if_pos (by omega), if_pos (by omega)]; omega) | (rw [if_pos (by omega), if_neg (by omega)]; omega) | (rw [if_neg (by omega)]; omega))], rfl⟩
    · refine r_aload_n (pc2 := 20) dX1_isAllowed_19 rfl rfl ?_
      refine r_iload_n (pc2 := 21) dX1_isAllowed_20 rfl rfl ?_
      refine r_callv_1 (pc2 := 24) dX1_isAllowed_21 rfl rs_1_34 rfl (by decide) rfl (Nat.le_of_ble_eq_true rfl) (Nat.le_of_ble_eq_true rfl) (by assumption) (by assumption) (c_digitAt _ t ch len k c hT hR hlen x (by unfold RG; omega)) (fun r_ w_ h_ => ?_)
      rw [h_.1, h_.2]
      clear h_ w_ r_
      refine ⟨rfl, ?_⟩
      refine r_iconst (pc2 := 25) dX1_isAllowed_24 rfl ?_
      refine r_aload_n (pc2 := 26) dX1_isAllowed_25 rfl rfl ?_
      refine r_getf (pc2 := 29) dX1_isAllowed_26 rfl fl_1_19 (by assumption) (by assumption) (by rfl) ?_
      refine r_calls_1 (pc2 := 32) dX1_isAllowed_29 rfl rs_1_38 rfl (by decide) rfl (Nat.le_of_ble_eq_true rfl) (Nat.le_of_ble_eq_true rfl) (c_viewsUpTo _ k (by omega)) (fun r_ w_ h_ => ?_)
      rw [h_.1, h_.2]
      clear h_ w_ r_
      refine ⟨rfl, ?_⟩
      refine r_iconst (pc2 := 33) dX1_isAllowed_32 rfl ?_
      refine r_isub (pc2 := 34) dX1_isAllowed_33 rfl ?_
      refine r_calls_3 (pc2 := 37) dX1_isAllowed_34 rfl rs_1_41 rfl (by decide) rfl (Nat.le_of_ble_eq_true rfl) (Nat.le_of_ble_eq_true rfl) (c_isWithin _ (dgZ c x) 0 ((k + 1) / 13 - 1) (by unfold RG; omega) (by unfold RG; omega) (by unfold RG; omega)) (fun r_ w_ h_ => ?_)
      rw [h_.1, h_.2]
      clear h_ w_ r_
      refine ⟨rfl, ?_⟩
      refine r_ifb_eq (pc2 := 40) (tgt := 44) dX1_isAllowed_37 rfl (by decide)  (fun h37 => ?_) (fun h37 => ?_)
      · refine r_iconst (pc2 := 45) dX1_isAllowed_44 rfl ?_
        refine r_retb dX1_isAllowed_45 rfl (by first | exact Or.inl rfl | exact Or.inr rfl | exact bz_01) ?_
        exact ⟨by first | (exfalso; omega) | rw [bz_t (by unfold alC; first | (rw [if_pos (by omega), if_pos (by omega)]; omega) | (rw [if_pos (by omega), if_neg (by omega)]; omega) | (rw [if_neg (by omega)]; omega))] | rw [bz_f (by unfold alC; first | (rw [if_pos (by omega), if_pos (by omega)]; omega) | (rw [if_pos (by omega), if_neg (by omega)]; omega) | (rw [if_neg (by omega)]; omega))], rfl⟩
      · refine r_iconst (pc2 := 41) dX1_isAllowed_40 rfl ?_
        refine r_goto (tgt := 45) dX1_isAllowed_41 (by decide) ?_
        refine r_retb dX1_isAllowed_45 rfl (by first | exact Or.inl rfl | exact Or.inr rfl | exact bz_01) ?_
        exact ⟨by first | (exfalso; omega) | rw [bz_t (by unfold alC; first | (rw [if_pos (by omega), if_pos (by omega)]; omega) | (rw [if_pos (by omega), if_neg (by omega)]; omega) | (rw [if_neg (by omega)]; omega))] | rw [bz_f (by unfold alC; first | (rw [if_pos (by omega), if_pos (by omega)]; omega) | (rw [if_pos (by omega), if_neg (by omega)]; omega) | (rw [if_neg (by omega)]; omega))], rfl⟩

set_option maxHeartbeats 4000000 in
theorem c_isEnded (w : av_W) (t ch : Nat) (len k : Int) (c : Nat → Int) (hT : Tx w t ch len k c) (hR : CR c) (hlen : 0 ≤ len ∧ len ≤ 80) (hk : -1 ≤ k ∧ k ≤ 80) : fn MX1_isEnded [.ref t] w (some (.int (iN (bz (enC len k))))) w := by
  obtain ⟨⟨ht, htw⟩, ⟨hch, hchw⟩, hne⟩ := id hT
  try unfold RG at *
  show rn MX1_isEnded 0 [some (.ref t)] [] w _
  refine r_aload_n (pc2 := 1) dX1_isEnded_0 rfl rfl ?_
  refine r_getf (pc2 := 4) dX1_isEnded_1 rfl fl_1_19 (by assumption) (by assumption) (by rfl) ?_
  refine r_iconst (pc2 := 5) dX1_isEnded_4 rfl ?_
  refine r_icmp_eq (pc2 := 8) (tgt := 29) dX1_isEnded_5 rfl (by decide) (by omega) (by omega) (fun h5 => ?_) (fun h5 => ?_)
  · refine r_aload_n (pc2 := 30) dX1_isEnded_29 rfl rfl ?_
    refine r_getf (pc2 := 33) dX1_isEnded_30 rfl fl_1_15 (by assumption) (by assumption) (by rfl) ?_
    refine r_iconst (pc2 := 34) dX1_isEnded_33 rfl ?_
    refine r_iadd (pc2 := 35) dX1_isEnded_34 rfl ?_
    refine r_bipush (pc2 := 37) dX1_isEnded_35 rfl (by decide) ?_
    refine r_irem (pc2 := 38) dX1_isEnded_37 rfl (by omega) (by omega) (by omega) (by omega) ?_
    rw [Int.tmod_eq_emod_of_nonneg (by omega)]
    refine r_if_ne (pc2 := 41) (tgt := 56) dX1_isEnded_38 rfl (by decide) (by omega) (fun h38 => ?_) (fun h38 => ?_)
    · refine r_iconst (pc2 := 57) dX1_isEnded_56 rfl ?_
      refine r_retb dX1_isEnded_57 rfl (by first | exact Or.inl rfl | exact Or.inr rfl | exact bz_01) ?_
      exact ⟨by first | (exfalso; omega) | rw [bz_t (by unfold enC; first | (rw [if_pos (by omega)]; omega) | (rw [if_neg (by omega)]; omega))] | rw [bz_f (by unfold enC; first | (rw [if_pos (by omega)]; omega) | (rw [if_neg (by omega)]; omega))], rfl⟩
    · refine r_aload_n (pc2 := 42) dX1_isEnded_41 rfl rfl ?_
      refine r_getf (pc2 := 45) dX1_isEnded_42 rfl fl_1_15 (by assumption) (by assumption) (by rfl) ?_
      refine r_calls_1 (pc2 := 48) dX1_isEnded_45 rfl rs_1_38 rfl (by decide) rfl (Nat.le_of_ble_eq_true rfl) (Nat.le_of_ble_eq_true rfl) (c_viewsUpTo _ len (by omega)) (fun r_ w_ h_ => ?_)
      rw [h_.1, h_.2]
      clear h_ w_ r_
      refine ⟨rfl, ?_⟩
      refine r_iconst (pc2 := 49) dX1_isEnded_48 rfl ?_
      refine r_icmp_lt (pc2 := 52) (tgt := 56) dX1_isEnded_49 rfl (by decide) (by omega) (by omega) (fun h49 => ?_) (fun h49 => ?_)
      · refine r_iconst (pc2 := 57) dX1_isEnded_56 rfl ?_
        refine r_retb dX1_isEnded_57 rfl (by first | exact Or.inl rfl | exact Or.inr rfl | exact bz_01) ?_
        exact ⟨by first | (exfalso; omega) | rw [bz_t (by unfold enC; first | (rw [if_pos (by omega)]; omega) | (rw [if_neg (by omega)]; omega))] | rw [bz_f (by unfold enC; first | (rw [if_pos (by omega)]; omega) | (rw [if_neg (by omega)]; omega))], rfl⟩
      · refine r_iconst (pc2 := 53) dX1_isEnded_52 rfl ?_
        refine r_goto (tgt := 57) dX1_isEnded_53 (by decide) ?_
        refine r_retb dX1_isEnded_57 rfl (by first | exact Or.inl rfl | exact Or.inr rfl | exact bz_01) ?_
        exact ⟨by first | (exfalso; omega) | rw [bz_t (by unfold enC; first | (rw [if_pos (by omega)]; omega) | (rw [if_neg (by omega)]; omega))] | rw [bz_f (by unfold enC; first | (rw [if_pos (by omega)]; omega) | (rw [if_neg (by omega)]; omega))], rfl⟩
  · refine r_aload_n (pc2 := 9) dX1_isEnded_8 rfl rfl ?_
    refine r_getf (pc2 := 12) dX1_isEnded_9 rfl fl_1_15 (by assumption) (by assumption) (by rfl) ?_
    refine r_aload_n (pc2 := 13) dX1_isEnded_12 rfl rfl ?_
    refine r_getf (pc2 := 16) dX1_isEnded_13 rfl fl_1_19 (by assumption) (by assumption) (by rfl) ?_
    refine r_isub (pc2 := 17) dX1_isEnded_16 rfl ?_
    refine r_iconst (pc2 := 18) dX1_isEnded_17 rfl ?_
    refine r_isub (pc2 := 19) dX1_isEnded_18 rfl ?_
    refine r_iconst (pc2 := 20) dX1_isEnded_19 rfl ?_
    refine r_icmp_lt (pc2 := 23) (tgt := 27) dX1_isEnded_20 rfl (by decide) (by omega) (by omega) (fun h20 => ?_) (fun h20 => ?_)
    · refine r_iconst (pc2 := 28) dX1_isEnded_27 rfl ?_
      refine r_retb dX1_isEnded_28 rfl (by first | exact Or.inl rfl | exact Or.inr rfl | exact bz_01) ?_
      exact ⟨by first | (exfalso; omega) | rw [bz_t (by unfold enC; first | (rw [if_pos (by omega)]; omega) | (rw [if_neg (by omega)]; omega))] | rw [bz_f (by unfold enC; first | (rw [if_pos (by omega)]; omega) | (rw [if_neg (by omega)]; omega))], rfl⟩
    · refine r_iconst (pc2 := 24) dX1_isEnded_23 rfl ?_
      refine r_goto (tgt := 28) dX1_isEnded_24 (by decide) ?_
      refine r_retb dX1_isEnded_28 rfl (by first | exact Or.inl rfl | exact Or.inr rfl | exact bz_01) ?_
      exact ⟨by first | (exfalso; omega) | rw [bz_t (by unfold enC; first | (rw [if_pos (by omega)]; omega) | (rw [if_neg (by omega)]; omega))] | rw [bz_f (by unfold enC; first | (rw [if_pos (by omega)]; omega) | (rw [if_neg (by omega)]; omega))], rfl⟩

theorem Tx.obj {w : av_W} {t ch : Nat} {len k : Int} {c : Nat → Int} (h : Tx w t ch len k c) (len2 k2 : Int) : Tx (wst w t (txO ch len2 k2)) t ch len2 k2 c := by
  obtain ⟨⟨ht, htw⟩, ⟨hch, hchw⟩, hne⟩ := h
  exact ⟨⟨ht, wst_self⟩, ⟨hch, by rw [wst_ne (fun q => hne q.symm)]; exact hchw⟩, hne⟩

set_option maxHeartbeats 4000000 in
theorem c_findFault (w : av_W) (t ch : Nat) (len k : Int) (c : Nat → Int) (hT : Tx w t ch len k c) (hR : CR c) (hlen : 0 ≤ len ∧ len ≤ 80) : cl MX1_findFault [.ref t] w (fun r' w' => (∃ i : Nat, (i : Int) < len ∧ (∀ j : Nat, j < i → alC c (coF c j) j) ∧ ¬ alC c (coF c i) i ∧ r' = some (.int (iN i)) ∧ w' = wst w t (txO ch len (coF c i))) ∨ ((∀ j : Nat, (j : Int) < len → alC c (coF c j) j) ∧ r' = some (.int (iN (if enC len (coF c len.toNat) then -1 else len))) ∧ w' = wst w t (txO ch len (coF c len.toNat)))) := by
  obtain ⟨⟨ht, htw⟩, ⟨hch, hchw⟩, hne⟩ := id hT
  try unfold RG at *
  show rn MX1_findFault 0 [some (.ref t), none] [] w (fun r' w' => (∃ i : Nat, (i : Int) < len ∧ (∀ j : Nat, j < i → alC c (coF c j) j) ∧ ¬ alC c (coF c i) i ∧ r' = some (.int (iN i)) ∧ w' = wst w t (txO ch len (coF c i))) ∨ ((∀ j : Nat, (j : Int) < len → alC c (coF c j) j) ∧ r' = some (.int (iN (if enC len (coF c len.toNat) then -1 else len))) ∧ w' = wst w t (txO ch len (coF c len.toNat))))
  have loop : ∀ (n : Nat) (i : Int), (0 ≤ i ∧ i ≤ len ∧ len + 1 ≤ i + n) → (∀ j : Nat, (j : Int) < i → alC c (coF c j) j) → rn MX1_findFault 7 [some (.ref t), some (.int (iN i))] [] (wst w t (txO ch len (coF c i.toNat))) (fun r' w' => (∃ i : Nat, (i : Int) < len ∧ (∀ j : Nat, j < i → alC c (coF c j) j) ∧ ¬ alC c (coF c i) i ∧ r' = some (.int (iN i)) ∧ w' = wst w t (txO ch len (coF c i))) ∨ ((∀ j : Nat, (j : Int) < len → alC c (coF c j) j) ∧ r' = some (.int (iN (if enC len (coF c len.toNat) then -1 else len))) ∧ w' = wst w t (txO ch len (coF c len.toNat)))) := by
    intro n
    induction n with
    | zero =>
      intro i hk0 hk1
      exfalso
      omega
    | succ n ih =>
      intro i hk0 hk1
      have hq := hT.obj len (coF c i.toNat)
      obtain ⟨⟨hqt, hqw⟩, ⟨hqc, hqx⟩, -⟩ := id hq
      have hcor := coF_rg c i.toNat
      have hcz := chZ_rg hR i
      refine r_iload_n (pc2 := 8) dX1_findFault_7 rfl rfl ?_
      refine r_aload_n (pc2 := 9) dX1_findFault_8 rfl rfl ?_
      refine r_getf (pc2 := 12) dX1_findFault_9 rfl fl_1_15 (by assumption) (by assumption) (by rfl) ?_
      refine r_icmp_ge (pc2 := 15) (tgt := 46) dX1_findFault_12 rfl (by decide) (by omega) (by omega) (fun h12 => ?_) (fun h12 => ?_)
      · have h6 : len = i := by omega
        refine r_aload_n (pc2 := 47) dX1_findFault_46 rfl rfl ?_
        refine r_callv_0 (pc2 := 50) dX1_findFault_47 rfl rs_1_30 rfl (by decide) rfl (Nat.le_of_ble_eq_true rfl) (Nat.le_of_ble_eq_true rfl) (by assumption) (by assumption) (c_isEnded _ t ch len _ c hq hR hlen (by omega)) (fun r_ w_ h_ => ?_)
        rw [h_.1, h_.2]
        clear h_ w_ r_
        refine ⟨rfl, ?_⟩
        refine r_ifb_eq (pc2 := 53) (tgt := 57) dX1_findFault_50 rfl (by decide)  (fun h50 => ?_) (fun h50 => ?_)
        · refine r_aload_n (pc2 := 58) dX1_findFault_57 rfl rfl ?_
          refine r_getf (pc2 := 61) dX1_findFault_58 rfl fl_1_15 (by assumption) (by assumption) (by rfl) ?_
          refine r_ret dX1_findFault_61 rfl ?_
          have e9 : len.toNat = i.toNat := by omega
          refine Or.inr ⟨fun j hj => hk1 j (by omega), ?_, by rw [e9]⟩
          rw [e9]
          first | (rw [if_pos h50]) | (rw [if_neg h50])
        · refine r_iconst (pc2 := 54) dX1_findFault_53 rfl ?_
          refine r_goto (tgt := 61) dX1_findFault_54 (by decide) ?_
          refine r_ret dX1_findFault_61 rfl ?_
          have e9 : len.toNat = i.toNat := by omega
          refine Or.inr ⟨fun j hj => hk1 j (by omega), ?_, by rw [e9]⟩
          rw [e9]
          first | (rw [if_pos h50]) | (rw [if_neg h50])
      · refine r_aload_n (pc2 := 16) dX1_findFault_15 rfl rfl ?_
        refine r_iload_n (pc2 := 17) dX1_findFault_16 rfl rfl ?_
        refine r_callv_1 (pc2 := 20) dX1_findFault_17 rfl rs_1_26 rfl (by decide) rfl (Nat.le_of_ble_eq_true rfl) (Nat.le_of_ble_eq_true rfl) (by assumption) (by assumption) (c_isAllowed _ t ch len _ c hq hR hlen (by omega) i (by omega)) (fun r_ w_ h_ => ?_)
        rw [h_.1, h_.2]
        clear h_ w_ r_
        refine ⟨rfl, ?_⟩
        refine r_ifb_ne (pc2 := 23) (tgt := 25) dX1_findFault_20 rfl (by decide)  (fun h20 => ?_) (fun h20 => ?_)
        · refine r_aload_n (pc2 := 26) dX1_findFault_25 rfl rfl ?_
          refine r_iload_n (pc2 := 27) dX1_findFault_26 rfl rfl ?_
          refine r_callv_1 (pc2 := 30) dX1_findFault_27 rfl rs_1_22 rfl (by decide) rfl (Nat.le_of_ble_eq_true rfl) (Nat.le_of_ble_eq_true rfl) (by assumption) (by assumption) (c_charAt _ t ch len _ c hq hR hlen i (by unfold RG; omega)) (fun r_ w_ h_ => ?_)
          rw [h_.1, h_.2]
          clear h_ w_ r_
          refine ⟨rfl, ?_⟩
          refine r_bipush (pc2 := 32) dX1_findFault_30 rfl (by decide) ?_
          refine r_icmp_ne (pc2 := 35) (tgt := 40) dX1_findFault_32 rfl (by decide) (by omega) (by omega) (fun h32 => ?_) (fun h32 => ?_)
          · have hco : coF c (i + 1).toNat = coF c i.toNat := by
              rw [show (i + 1).toNat = i.toNat + 1 by omega]
              show (if chZ c ((i.toNat : Nat) : Int) = 58 then ((i.toNat : Nat) : Int) else coF c i.toNat) = _
              rw [tn hk0.1, if_neg h32]
            try rw [wst_wst]
            refine r_iinc_1 (pc2 := 43) dX1_findFault_40 rfl rfl ?_
            refine r_goto (tgt := 7) dX1_findFault_43 (by decide) ?_
            have hall : ∀ j : Nat, (j : Int) < i + 1 → alC c (coF c j) j := fun j hj => by
              by_cases hji : (j : Int) = i
              · rw [show j = i.toNat by omega, tn hk0.1]
                exact h20
              · exact hk1 j (by omega)
            have := ih (i + 1) (by omega) hall
            rw [show coF c (i + 1).toNat = _ from hco] at this
            exact this
          · have hco : coF c (i + 1).toNat = i := by
              rw [show (i + 1).toNat = i.toNat + 1 by omega]
              show (if chZ c ((i.toNat : Nat) : Int) = 58 then ((i.toNat : Nat) : Int) else coF c i.toNat) = _
              rw [tn hk0.1, if_pos h32]
            refine r_aload_n (pc2 := 36) dX1_findFault_35 rfl rfl ?_
            refine r_iload_n (pc2 := 37) dX1_findFault_36 rfl rfl ?_
            refine r_putf (pc2 := 40) dX1_findFault_37 rfl fl_1_19 (by assumption) (by assumption) (by exact Nat.le_of_ble_eq_true rfl) (by rfl) (by rfl) (by rfl) ?_
            try rw [wst_wst]
            refine r_iinc_1 (pc2 := 43) dX1_findFault_40 rfl rfl ?_
            refine r_goto (tgt := 7) dX1_findFault_43 (by decide) ?_
            have hall : ∀ j : Nat, (j : Int) < i + 1 → alC c (coF c j) j := fun j hj => by
              by_cases hji : (j : Int) = i
              · rw [show j = i.toNat by omega, tn hk0.1]
                exact h20
              · exact hk1 j (by omega)
            have := ih (i + 1) (by omega) hall
            rw [show coF c (i + 1).toNat = _ from hco] at this
            exact this
        · refine r_iload_n (pc2 := 24) dX1_findFault_23 rfl rfl ?_
          refine r_ret dX1_findFault_24 rfl ?_
          refine Or.inl ⟨i.toNat, by omega, fun j hj => hk1 j (by omega), ?_, by rw [tn hk0.1], rfl⟩
          rw [tn hk0.1]
          exact h20
  refine r_aload_n (pc2 := 1) dX1_findFault_0 rfl rfl ?_
  refine r_iconst (pc2 := 2) dX1_findFault_1 rfl ?_
  refine r_putf (pc2 := 5) dX1_findFault_2 rfl fl_1_19 (by assumption) (by assumption) (by exact Nat.le_of_ble_eq_true rfl) (by rfl) (by rfl) (by rfl) ?_
  refine r_iconst (pc2 := 6) dX1_findFault_5 rfl ?_
  refine r_ist_1 (pc2 := 7) dX1_findFault_6 rfl rfl ?_
  have := loop (len.toNat + 1) 0 (by omega) (fun j hj => by omega)
  exact this
