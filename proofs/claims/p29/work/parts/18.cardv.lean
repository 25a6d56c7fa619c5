/-! the class's Card: views come, go and change places; cards are copied -/
def cdW (w : av_W) (a ca sa : Nat) (E A B : av_E) : av_W := wst (wst (wst w a E) ca A) sa B
def exF (x y k : Int) (c : Nat → Int) : Nat → Int := fun j => if x * 12 ≤ (j : Int) ∧ (j : Int) < x * 12 + k then c ((j : Int) - x * 12 + y * 12).toNat else if y * 12 ≤ (j : Int) ∧ (j : Int) < y * 12 + k then c ((j : Int) - y * 12 + x * 12).toNat else c j
theorem exF_0 (x y : Int) (c : Nat → Int) : exF x y 0 c = c := by
  funext j
  unfold exF
  rw [if_neg (by omega), if_neg (by omega)]
theorem exF_step {x y k : Int} (c : Nat → Int) (hx : 0 ≤ x) (hy : 0 ≤ y) (hxy : x ≠ y) (hk : 0 ≤ k ∧ k < 12) : updZ (updZ (exF x y k c) (x * 12 + k).toNat (c (y * 12 + k).toNat)) (y * 12 + k).toNat (c (x * 12 + k).toNat) = exF x y (k + 1) c := by
  funext j
  unfold updZ exF
  by_cases h1 : j = (y * 12 + k).toNat
  · subst h1
    rw [if_pos rfl, if_neg (by omega), if_pos (by omega)]
    congr 1
    omega
  · rw [if_neg h1]
    by_cases h2 : j = (x * 12 + k).toNat
    · subst h2
      rw [if_pos rfl, if_pos (by omega)]
      congr 1
      omega
    · rw [if_neg h2]
      by_cases h3 : x * 12 ≤ (j : Int) ∧ (j : Int) < x * 12 + k
      · rw [if_pos h3, if_pos (by omega)]
      · rw [if_neg h3, if_neg (c := x * 12 ≤ (j : Int) ∧ (j : Int) < x * 12 + (k + 1)) (by omega)]
        by_cases h4 : y * 12 ≤ (j : Int) ∧ (j : Int) < y * 12 + k
        · rw [if_pos h4, if_pos (by omega)]
        · rw [if_neg h4, if_neg (by omega)]
theorem exF_at {x y k : Int} {c : Nat → Int} (hx : 0 ≤ x) (hy : 0 ≤ y) (hxy : x ≠ y) (hk : 0 ≤ k ∧ k < 12) : exF x y k c (x * 12 + k).toNat = c (x * 12 + k).toNat ∧ exF x y k c (y * 12 + k).toNat = c (y * 12 + k).toNat := by
  unfold exF
  constructor
  · rw [if_neg (by omega), if_neg (by omega)]
  · rw [if_neg (by omega), if_neg (by omega)]
def unF (x y : Int) (c : Nat → Int) : Nat → Int := fun j => bz (c (x * 12 + j).toNat ≠ c (y * 12 + j).toNat)
theorem colI_in {c : Nat → Int} {x y : Int} (hx : 0 ≤ x ∧ x ≤ 3) (hy : 0 ≤ y ∧ y ≤ 11) : colI c x y = c (x * 12 + y).toNat := if_pos ⟨hx, hy⟩

set_option maxHeartbeats 4000000 in
theorem c_dropView (w : av_W) (a ca sa : Nat) (v p sh ln pr gd co : Int) (c s : Nat → Int) (hC : Cd w a ca sa v p sh ln pr gd co c s) (hK : KR v p sh ln) (x : Int) (hx : 0 ≤ x ∧ x < v) (W2 : av_W) (hW2 : W2 = cdW w a ca sa (cdO ca sa (v - 1) p sh ln pr gd co) (arO 48 (rgF (x * 12) ((v - 1 - x) * 12) (fun j => c (j + 12)) c)) (arO 6 (preF 6 (inT (v - 1)) s))) (hv3 : 3 ≤ v) : fn MX0_dropView [.ref a, .int (iN x)] w none W2 := by
  obtain ⟨⟨ha, hw⟩, ⟨hca, hcw⟩, ⟨hsa, hsw⟩, hne1, hne2, hne3⟩ := id hC
  obtain ⟨hv, hp, hsh, hln⟩ := id hK
  try unfold RG at *
  show rn MX0_dropView 0 [some (.ref a), some (.int (iN x)), none, none] [] w (fun r' w' => r' = none ∧ w' = W2)
  have loop : ∀ (n : Nat) (k : Int) (b3 : Option Value), ((x + 1 ≤ k ∧ k ≤ v) ∧ v + 1 ≤ k + n) → rn MX0_dropView 4 [some (.ref a), some (.int (iN x)), some (.int (iN k)), b3] [] (wst w ca (arO 48 (rgF (x * 12) ((k - 1 - x) * 12) (fun j => c (j + 12)) c))) (fun r' w' => r' = none ∧ w' = W2) := by
    intro n
    induction n with
    | zero =>
      intro k b3 hk0
      exfalso
      omega
    | succ n ih =>
      intro k b3 hk0
      obtain ⟨⟨hqa, hqw⟩, -⟩ := (hC.col (rgF (x * 12) ((k - 1 - x) * 12) (fun j => c (j + 12)) c))
      refine r_iload_n (pc2 := 5) dX0_dropView_4 rfl rfl ?_
      refine r_aload_n (pc2 := 6) dX0_dropView_5 rfl rfl ?_
      refine r_getf (pc2 := 9) dX0_dropView_6 rfl fl_0_9 (by assumption) (by assumption) (by rfl) ?_
      refine r_icmp_ge (pc2 := 12) (tgt := 46) dX0_dropView_9 rfl (by decide) (by omega) (by omega) (fun h9 => ?_) (fun h9 => ?_)
      · have h6 : v = k := by omega
        subst h6
        refine r_aload_n (pc2 := 47) dX0_dropView_46 rfl rfl ?_
        refine r_dup (pc2 := 48) dX0_dropView_47 rfl rfl ?_
        refine r_getf (pc2 := 51) dX0_dropView_48 rfl fl_0_9 (by assumption) (by assumption) (by rfl) ?_
        refine r_iconst (pc2 := 52) dX0_dropView_51 rfl ?_
        refine r_isub (pc2 := 53) dX0_dropView_52 rfl ?_
        refine r_putf (pc2 := 56) dX0_dropView_53 rfl fl_0_9 (by assumption) (by assumption) (by exact Nat.le_of_ble_eq_true rfl) (by rfl) (by rfl) (by rfl) ?_
        show rn _ _ _ _ (wst _ a (cdO ca sa (v - 1) p sh ln pr gd co)) _
        have hC2 := (hC.col (rgF (x * 12) ((v - 1 - x) * 12) (fun j => c (j + 12)) c)).obj (v - 1) p sh ln pr gd co
        obtain ⟨⟨hra, hrw⟩, -⟩ := id hC2
        refine r_aload_n (pc2 := 57) dX0_dropView_56 rfl rfl ?_
        refine r_callv_0 (pc2 := 60) dX0_dropView_57 rfl rs_0_40 rfl (by decide) rfl (Nat.le_of_ble_eq_true rfl) (Nat.le_of_ble_eq_true rfl) (by assumption) (by assumption) (c_resetSlices _ a ca sa (v - 1) p sh ln pr gd co _ _ hC2 ⟨by omega, hp, hsh, hln⟩) (fun r_ w_ h_ => ?_)
        rw [h_.1, h_.2]
        clear h_ w_ r_
        refine ⟨rfl, ?_⟩
        refine r_retv dX0_dropView_60 rfl ?_
        exact ⟨rfl, by rw [hW2]; unfold cdW; rw [wst_comm w _ _ (fun q => hne1 q.symm)]⟩
      · have inner : ∀ (n2 : Nat) (l : Int), (0 ≤ l ∧ l ≤ 12 ∧ 13 ≤ l + n2) → rn MX0_dropView 14 [some (.ref a), some (.int (iN x)), some (.int (iN k)), some (.int (iN l))] [] (wst w ca (arO 48 (rgF (x * 12) ((k - 1 - x) * 12 + l) (fun j => c (j + 12)) c))) (fun r' w' => r' = none ∧ w' = W2) := by
          intro n2
          induction n2 with
          | zero =>
            intro l hl0
            exfalso
            omega
          | succ n2 ih2 =>
            intro l hl0
            obtain ⟨⟨hra, hrw⟩, -⟩ := (hC.col (rgF (x * 12) ((k - 1 - x) * 12 + l) (fun j => c (j + 12)) c))
            refine r_iload_n (pc2 := 15) dX0_dropView_14 rfl rfl ?_
            refine r_bipush (pc2 := 17) dX0_dropView_15 rfl (by decide) ?_
            refine r_icmp_ge (pc2 := 20) (tgt := 40) dX0_dropView_17 rfl (by decide) (by omega) (by omega) (fun h17 => ?_) (fun h17 => ?_)
            · have h6 : l = 12 := by omega
              subst h6
              rw [show (k - 1 - x) * 12 + 12 = (k + 1 - 1 - x) * 12 by omega]
              refine r_iinc_2 (pc2 := 43) dX0_dropView_40 rfl rfl ?_
              refine r_goto (tgt := 4) dX0_dropView_43 (by decide) ?_
              exact ih (k + 1) _ (by omega)
            · refine r_aload_n (pc2 := 21) dX0_dropView_20 rfl rfl ?_
              refine r_iload_n (pc2 := 22) dX0_dropView_21 rfl rfl ?_
              refine r_iconst (pc2 := 23) dX0_dropView_22 rfl ?_
              refine r_isub (pc2 := 24) dX0_dropView_23 rfl ?_
              refine r_iload_n (pc2 := 25) dX0_dropView_24 rfl rfl ?_
              refine r_aload_n (pc2 := 26) dX0_dropView_25 rfl rfl ?_
              refine r_iload_n (pc2 := 27) dX0_dropView_26 rfl rfl ?_
              refine r_iload_n (pc2 := 28) dX0_dropView_27 rfl rfl ?_
              refine r_callv_2 (pc2 := 31) dX0_dropView_28 rfl rs_0_59 rfl (by decide) rfl (Nat.le_of_ble_eq_true rfl) (Nat.le_of_ble_eq_true rfl) (by assumption) (by assumption) (c_colourIn _ a ca sa v p sh ln pr gd co _ _ (hC.col _) hK k l (by unfold RG; omega) (by unfold RG; omega)) (fun r_ w_ h_ => ?_)
              rw [h_.1, h_.2]
              clear h_ w_ r_
              refine ⟨rfl, ?_⟩
              have e1 : colI (rgF (x * 12) ((k - 1 - x) * 12 + l) (fun j => c (j + 12)) c) k l = c ((x * 12 + ((k - 1 - x) * 12 + l)).toNat + 12) := by
                rw [colI_in (by omega) (by omega), rgF_out (by omega)]
                congr 1
                omega
              rw [e1]
              refine r_callv_3 (pc2 := 34) dX0_dropView_31 rfl rs_0_55 rfl (by decide) rfl (Nat.le_of_ble_eq_true rfl) (Nat.le_of_ble_eq_true rfl) (by assumption) (by assumption) (c_paint _ a ca sa v p sh ln pr gd co _ _ (hC.col _) hK (k - 1) l _ (by omega) (by omega)) (fun r_ w_ h_ => ?_)
              rw [h_.1, h_.2]
              clear h_ w_ r_
              refine ⟨rfl, ?_⟩
              have e2 : ((k - 1) * 12 + l).toNat = (x * 12 + ((k - 1 - x) * 12 + l)).toNat := by omega
              rw [wst_wst, e2, rgF_step (by omega) (by omega) (fun j => c (j + 12)) c, show (k - 1 - x) * 12 + l + 1 = (k - 1 - x) * 12 + (l + 1) by omega]
              refine r_iinc_3 (pc2 := 37) dX0_dropView_34 rfl rfl ?_
              refine r_goto (tgt := 14) dX0_dropView_37 (by decide) ?_
              exact ih2 (l + 1) (by omega)
        refine r_iconst (pc2 := 13) dX0_dropView_12 rfl ?_
        refine r_ist_3 (pc2 := 14) dX0_dropView_13 rfl rfl ?_
        have := inner 13 0 (by omega)
        rw [Int.add_zero] at this
        exact this
  refine r_iload_n (pc2 := 1) dX0_dropView_0 rfl rfl ?_
  refine r_iconst (pc2 := 2) dX0_dropView_1 rfl ?_
  refine r_iadd (pc2 := 3) dX0_dropView_2 rfl ?_
  refine r_ist_2 (pc2 := 4) dX0_dropView_3 rfl rfl ?_
  have := loop (v.toNat + 1) (x + 1) none (by omega)
  rw [show (x + 1 - 1 - x) * 12 = 0 by omega, rgF_0, wst_id hcw] at this
  exact this

set_option maxHeartbeats 4000000 in
theorem c_exchangeViews (w : av_W) (a ca sa : Nat) (v p sh ln pr gd co : Int) (c s : Nat → Int) (hC : Cd w a ca sa v p sh ln pr gd co c s) (hK : KR v p sh ln) (x y : Int) (hx : 0 ≤ x ∧ x ≤ 3) (hy : 0 ≤ y ∧ y ≤ 3) (hxy : x ≠ y) (hcr : ∀ j : Nat, (j : Int) < 48 → -1000 ≤ c j ∧ c j ≤ 1000) : fn MX0_exchangeViews [.ref a, .int (iN x), .int (iN y)] w (some (.int (iN (sm 12 (unF x y c))))) (wst w ca (arO 48 (exF x y 12 c))) := by
  obtain ⟨⟨ha, hw⟩, ⟨hca, hcw⟩, ⟨hsa, hsw⟩, hne1, hne2, hne3⟩ := id hC
  obtain ⟨hv, hp, hsh, hln⟩ := id hK
  try unfold RG at *
  show rn MX0_exchangeViews 0 [some (.ref a), some (.int (iN x)), some (.int (iN y)), none, none, none, none] [] w (fun r' w' => r' = (some (.int (iN (sm 12 (unF x y c))))) ∧ w' = (wst w ca (arO 48 (exF x y 12 c))))
  have loop : ∀ (n : Nat) (k : Int) (m : Int) (b5 : Option Value) (b6 : Option Value), (0 ≤ k ∧ k ≤ 12 ∧ 13 ≤ k + n) → (m = sm k.toNat (unF x y c)) → rn MX0_exchangeViews 5 [some (.ref a), some (.int (iN x)), some (.int (iN y)), some (.int (iN m)), some (.int (iN k)), b5, b6] [] (wst w ca (arO 48 (exF x y k c))) (fun r' w' => r' = (some (.int (iN (sm 12 (unF x y c))))) ∧ w' = (wst w ca (arO 48 (exF x y 12 c)))) := by
    intro n
    induction n with
    | zero =>
      intro k m b5 b6 hk0 hk1
      exfalso
      omega
    | succ n ih =>
      intro k m b5 b6 hk0 hk1
      obtain ⟨⟨hqa, hqw⟩, -⟩ := (hC.col (exF x y k c))
      refine r_iload (pc2 := 7) dX0_exchangeViews_5 rfl rfl ?_
      refine r_bipush (pc2 := 9) dX0_exchangeViews_7 rfl (by decide) ?_
      refine r_icmp_ge (pc2 := 12) (tgt := 64) dX0_exchangeViews_9 rfl (by decide) (by omega) (by omega) (fun h9 => ?_) (fun h9 => ?_)
      · have h6 : k = 12 := by omega
        subst h6
        refine r_iload_n (pc2 := 65) dX0_exchangeViews_64 rfl rfl ?_
        refine r_ret dX0_exchangeViews_65 rfl ?_
        exact ⟨by rw [hk1]; rfl, rfl⟩
      · refine r_aload_n (pc2 := 13) dX0_exchangeViews_12 rfl rfl ?_
        refine r_iload_n (pc2 := 14) dX0_exchangeViews_13 rfl rfl ?_
        refine r_iload (pc2 := 16) dX0_exchangeViews_14 rfl rfl ?_
        refine r_callv_2 (pc2 := 19) dX0_exchangeViews_16 rfl rs_0_59 rfl (by decide) rfl (Nat.le_of_ble_eq_true rfl) (Nat.le_of_ble_eq_true rfl) (by assumption) (by assumption) (c_colourIn _ a ca sa v p sh ln pr gd co _ _ (hC.col _) hK x k (by unfold RG; omega) (by unfold RG; omega)) (fun r_ w_ h_ => ?_)
        rw [h_.1, h_.2]
        clear h_ w_ r_
        refine ⟨rfl, ?_⟩
        have e1 : colI (exF x y k c) x k = c (x * 12 + k).toNat := by rw [colI_in hx (by omega), (exF_at (by omega) (by omega) hxy (by omega)).1]
        rw [e1]
        refine r_ist_5 (pc2 := 21) dX0_exchangeViews_19 rfl rfl ?_
        refine r_aload_n (pc2 := 22) dX0_exchangeViews_21 rfl rfl ?_
        refine r_iload_n (pc2 := 23) dX0_exchangeViews_22 rfl rfl ?_
        refine r_iload (pc2 := 25) dX0_exchangeViews_23 rfl rfl ?_
        refine r_callv_2 (pc2 := 28) dX0_exchangeViews_25 rfl rs_0_59 rfl (by decide) rfl (Nat.le_of_ble_eq_true rfl) (Nat.le_of_ble_eq_true rfl) (by assumption) (by assumption) (c_colourIn _ a ca sa v p sh ln pr gd co _ _ (hC.col _) hK y k (by unfold RG; omega) (by unfold RG; omega)) (fun r_ w_ h_ => ?_)
        rw [h_.1, h_.2]
        clear h_ w_ r_
        refine ⟨rfl, ?_⟩
        have e2 : colI (exF x y k c) y k = c (y * 12 + k).toNat := by rw [colI_in hy (by omega), (exF_at (by omega) (by omega) hxy (by omega)).2]
        rw [e2]
        have g1 := hcr (x * 12 + k).toNat (by omega)
        have g2 := hcr (y * 12 + k).toNat (by omega)
        refine r_ist_6 (pc2 := 30) dX0_exchangeViews_28 rfl rfl ?_
        refine r_iload (pc2 := 32) dX0_exchangeViews_30 rfl rfl ?_
        refine r_iload (pc2 := 34) dX0_exchangeViews_32 rfl rfl ?_
        refine r_icmp_eq (pc2 := 37) (tgt := 40) dX0_exchangeViews_34 rfl (by decide) (by omega) (by omega) (fun h34 => ?_) (fun h34 => ?_)
        · have hb : unF x y c k.toNat = 0 := by unfold unF; rw [tn hk0.1]; exact bz_f (fun q => q h34)
          rw [show m = m + 0 by omega]
          refine r_aload_n (pc2 := 41) dX0_exchangeViews_40 rfl rfl ?_
          refine r_iload_n (pc2 := 42) dX0_exchangeViews_41 rfl rfl ?_
          refine r_iload (pc2 := 44) dX0_exchangeViews_42 rfl rfl ?_
          refine r_iload (pc2 := 46) dX0_exchangeViews_44 rfl rfl ?_
          refine r_callv_3 (pc2 := 49) dX0_exchangeViews_46 rfl rs_0_55 rfl (by decide) rfl (Nat.le_of_ble_eq_true rfl) (Nat.le_of_ble_eq_true rfl) (by assumption) (by assumption) (c_paint _ a ca sa v p sh ln pr gd co _ _ (hC.col _) hK x k _ hx (by omega)) (fun r_ w_ h_ => ?_)
          rw [h_.1, h_.2]
          clear h_ w_ r_
          refine ⟨rfl, ?_⟩
          rw [wst_wst]
          obtain ⟨⟨hra, hrw⟩, -⟩ := (hC.col (updZ (exF x y k c) (x * 12 + k).toNat (c (y * 12 + k).toNat)))
          refine r_aload_n (pc2 := 50) dX0_exchangeViews_49 rfl rfl ?_
          refine r_iload_n (pc2 := 51) dX0_exchangeViews_50 rfl rfl ?_
          refine r_iload (pc2 := 53) dX0_exchangeViews_51 rfl rfl ?_
          refine r_iload (pc2 := 55) dX0_exchangeViews_53 rfl rfl ?_
          refine r_callv_3 (pc2 := 58) dX0_exchangeViews_55 rfl rs_0_55 rfl (by decide) rfl (Nat.le_of_ble_eq_true rfl) (Nat.le_of_ble_eq_true rfl) (by assumption) (by assumption) (c_paint _ a ca sa v p sh ln pr gd co _ _ (hC.col _) hK y k _ hy (by omega)) (fun r_ w_ h_ => ?_)
          rw [h_.1, h_.2]
          clear h_ w_ r_
          refine ⟨rfl, ?_⟩
          rw [wst_wst, exF_step c hx.1 hy.1 hxy (by omega)]
          refine r_iinc_4 (pc2 := 61) dX0_exchangeViews_58 rfl rfl ?_
          refine r_goto (tgt := 5) dX0_exchangeViews_61 (by decide) ?_
          exact ih (k + 1) _ _ _ (by omega) (by rw [sm_step hk0.1, ← hk1, hb])
        · have hb : unF x y c k.toNat = 1 := by unfold unF; rw [tn hk0.1]; exact bz_t h34
          refine r_iinc_3 (pc2 := 40) dX0_exchangeViews_37 rfl rfl ?_
          refine r_aload_n (pc2 := 41) dX0_exchangeViews_40 rfl rfl ?_
          refine r_iload_n (pc2 := 42) dX0_exchangeViews_41 rfl rfl ?_
          refine r_iload (pc2 := 44) dX0_exchangeViews_42 rfl rfl ?_
          refine r_iload (pc2 := 46) dX0_exchangeViews_44 rfl rfl ?_
          refine r_callv_3 (pc2 := 49) dX0_exchangeViews_46 rfl rs_0_55 rfl (by decide) rfl (Nat.le_of_ble_eq_true rfl) (Nat.le_of_ble_eq_true rfl) (by assumption) (by assumption) (c_paint _ a ca sa v p sh ln pr gd co _ _ (hC.col _) hK x k _ hx (by omega)) (fun r_ w_ h_ => ?_)
          rw [h_.1, h_.2]
          clear h_ w_ r_
          refine ⟨rfl, ?_⟩
          rw [wst_wst]
          obtain ⟨⟨hra, hrw⟩, -⟩ := (hC.col (updZ (exF x y k c) (x * 12 + k).toNat (c (y * 12 + k).toNat)))
          refine r_aload_n (pc2 := 50) dX0_exchangeViews_49 rfl rfl ?_
          refine r_iload_n (pc2 := 51) dX0_exchangeViews_50 rfl rfl ?_
          refine r_iload (pc2 := 53) dX0_exchangeViews_51 rfl rfl ?_
          refine r_iload (pc2 := 55) dX0_exchangeViews_53 rfl rfl ?_
          refine r_callv_3 (pc2 := 58) dX0_exchangeViews_55 rfl rs_0_55 rfl (by decide) rfl (Nat.le_of_ble_eq_true rfl) (Nat.le_of_ble_eq_true rfl) (by assumption) (by assumption) (c_paint _ a ca sa v p sh ln pr gd co _ _ (hC.col _) hK y k _ hy (by omega)) (fun r_ w_ h_ => ?_)
          rw [h_.1, h_.2]
          clear h_ w_ r_
          refine ⟨rfl, ?_⟩
          rw [wst_wst, exF_step c hx.1 hy.1 hxy (by omega)]
          refine r_iinc_4 (pc2 := 61) dX0_exchangeViews_58 rfl rfl ?_
          refine r_goto (tgt := 5) dX0_exchangeViews_61 (by decide) ?_
          exact ih (k + 1) _ _ _ (by omega) (by rw [sm_step hk0.1, ← hk1, hb])
  refine r_iconst (pc2 := 1) dX0_exchangeViews_0 rfl ?_
  refine r_ist_3 (pc2 := 2) dX0_exchangeViews_1 rfl rfl ?_
  refine r_iconst (pc2 := 3) dX0_exchangeViews_2 rfl ?_
  refine r_ist_4 (pc2 := 5) dX0_exchangeViews_3 rfl rfl ?_
  have := loop 13 0 0 none none (by omega) rfl
  rw [exF_0, wst_id hcw] at this
  exact this
