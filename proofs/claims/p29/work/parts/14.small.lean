/-! small methods of TiltedCards and of its Card -/
set_option maxHeartbeats 4000000 in
theorem c_isWithin (w : av_W) (v lo hi : Int) (hv : RG v) (hl : RG lo) (hh : RG hi) : fn MX4_isWithin [.int (iN v), .int (iN lo), .int (iN hi)] w (some (.int (iN (bz (lo ≤ v ∧ v ≤ hi))))) w := by
  unfold RG at *
  show rn MX4_isWithin 0 [some (.int (iN v)), some (.int (iN lo)), some (.int (iN hi))] [] w _
  refine r_iload_n (pc2 := 1) dX4_isWithin_0 rfl rfl ?_
  refine r_iload_n (pc2 := 2) dX4_isWithin_1 rfl rfl ?_
  refine r_icmp_lt (pc2 := 5) (tgt := 14) dX4_isWithin_2 rfl (by decide) (by omega) (by omega) (fun h2 => ?_) (fun h2 => ?_)
  · refine r_iconst (pc2 := 15) dX4_isWithin_14 rfl ?_
    refine r_retb dX4_isWithin_15 rfl (by first | exact Or.inl rfl | exact Or.inr rfl | exact bz_01) ?_
    exact ⟨by first | rw [bz_t (by omega)] | rw [bz_f (by omega)], rfl⟩
  · refine r_iload_n (pc2 := 6) dX4_isWithin_5 rfl rfl ?_
    refine r_iload_n (pc2 := 7) dX4_isWithin_6 rfl rfl ?_
    refine r_icmp_gt (pc2 := 10) (tgt := 14) dX4_isWithin_7 rfl (by decide) (by omega) (by omega) (fun h7 => ?_) (fun h7 => ?_)
    · refine r_iconst (pc2 := 15) dX4_isWithin_14 rfl ?_
      refine r_retb dX4_isWithin_15 rfl (by first | exact Or.inl rfl | exact Or.inr rfl | exact bz_01) ?_
      exact ⟨by first | rw [bz_t (by omega)] | rw [bz_f (by omega)], rfl⟩
    · refine r_iconst (pc2 := 11) dX4_isWithin_10 rfl ?_
      refine r_goto (tgt := 15) dX4_isWithin_11 (by decide) ?_
      refine r_retb dX4_isWithin_15 rfl (by first | exact Or.inl rfl | exact Or.inr rfl | exact bz_01) ?_
      exact ⟨by first | rw [bz_t (by omega)] | rw [bz_f (by omega)], rfl⟩

set_option maxHeartbeats 4000000 in
theorem c_isRidge (w : av_W) (v : Int) (hv : RG v) : fn MX4_isRidge [.int (iN v)] w (some (.int (iN (bz (0 ≤ v ∧ v ≤ 11))))) w := by
  unfold RG at *
  show rn MX4_isRidge 0 [some (.int (iN v))] [] w _
  refine r_iload_n (pc2 := 1) dX4_isRidge_0 rfl rfl ?_
  refine r_iconst (pc2 := 2) dX4_isRidge_1 rfl ?_
  refine r_bipush (pc2 := 4) dX4_isRidge_2 rfl (by decide) ?_
  refine r_calls_3 (pc2 := 7) dX4_isRidge_4 rfl rs_4_62 rfl (by decide) rfl (Nat.le_of_ble_eq_true rfl) (Nat.le_of_ble_eq_true rfl) (c_isWithin _ v 0 11 (by unfold RG; omega) (by unfold RG; omega) (by unfold RG; omega)) (fun r_ w_ h_ => ?_)
  rw [h_.1, h_.2]
  clear h_ w_ r_
  refine ⟨rfl, ?_⟩
  refine r_retb dX4_isRidge_7 rfl (by first | exact Or.inl rfl | exact Or.inr rfl | exact bz_01) ?_
  exact ⟨rfl, rfl⟩

set_option maxHeartbeats 4000000 in
theorem c_isAngle (w : av_W) (v : Int) (hv : RG v) : fn MX4_isAngle [.int (iN v)] w (some (.int (iN (bz (-9 ≤ v ∧ v ≤ 9))))) w := by
  unfold RG at *
  show rn MX4_isAngle 0 [some (.int (iN v))] [] w _
  refine r_iload_n (pc2 := 1) dX4_isAngle_0 rfl rfl ?_
  refine r_bipush (pc2 := 3) dX4_isAngle_1 rfl (by decide) ?_
  refine r_bipush (pc2 := 5) dX4_isAngle_3 rfl (by decide) ?_
  refine r_calls_3 (pc2 := 8) dX4_isAngle_5 rfl rs_4_62 rfl (by decide) rfl (Nat.le_of_ble_eq_true rfl) (Nat.le_of_ble_eq_true rfl) (c_isWithin _ v (-9) 9 (by unfold RG; omega) (by unfold RG; omega) (by unfold RG; omega)) (fun r_ w_ h_ => ?_)
  rw [h_.1, h_.2]
  clear h_ w_ r_
  refine ⟨rfl, ?_⟩
  refine r_retb dX4_isAngle_8 rfl (by first | exact Or.inl rfl | exact Or.inr rfl | exact bz_01) ?_
  exact ⟨rfl, rfl⟩

set_option maxHeartbeats 4000000 in
theorem c_none (w : av_W) (v : Int) (hv : RG v) : fn MX4_noneForNothing [.int (iN v)] w (some (.int (iN (if v = -1 then -105 else v)))) w := by
  unfold RG at *
  show rn MX4_noneForNothing 0 [some (.int (iN v))] [] w _
  refine r_iload_n (pc2 := 1) dX4_noneForNothing_0 rfl rfl ?_
  refine r_iconst (pc2 := 2) dX4_noneForNothing_1 rfl ?_
  refine r_icmp_ne (pc2 := 5) (tgt := 10) dX4_noneForNothing_2 rfl (by decide) (by omega) (by omega) (fun h2 => ?_) (fun h2 => ?_)
  · refine r_iload_n (pc2 := 11) dX4_noneForNothing_10 rfl rfl ?_
    refine r_ret dX4_noneForNothing_11 rfl ?_
    exact ⟨by first | rw [if_pos (by omega)] | rw [if_neg (by omega)], rfl⟩
  · refine r_bipush (pc2 := 7) dX4_noneForNothing_5 rfl (by decide) ?_
    refine r_goto (tgt := 11) dX4_noneForNothing_7 (by decide) ?_
    refine r_ret dX4_noneForNothing_11 rfl ?_
    exact ⟨by first | rw [if_pos (by omega)] | rw [if_neg (by omega)], rfl⟩
