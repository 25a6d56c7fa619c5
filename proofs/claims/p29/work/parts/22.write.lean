/-! a text is written to a card; the history -/
def dgc (c : Nat → Int) : Nat → Int := fun j => dgZ c ((j : Int) / 12 * 13 + (j : Int) % 12)
theorem dgc_at {c : Nat → Int} {x y : Int} (hx : 0 ≤ x) (hy : 0 ≤ y ∧ y ≤ 11) : dgc c (x * 12 + y).toNat = dgZ c (x * 13 + y) := by
  unfold dgc
  rw [tn (by omega)]
  congr 1
  omega

theorem Tx.out {w : av_W} {t ch : Nat} {len k : Int} {c : Nat → Int} (h : Tx w t ch len k c) {b : Nat} (e : av_E) (h1 : t ≠ b) (h2 : ch ≠ b) : Tx (wst w b e) t ch len k c := by
  obtain ⟨⟨ht, htw⟩, ⟨hch, hchw⟩, hne⟩ := h
  exact ⟨⟨ht, by rw [wst_ne h1]; exact htw⟩, ⟨hch, by rw [wst_ne h2]; exact hchw⟩, hne⟩
theorem Tx_cdW {w : av_W} {t ch : Nat} {len k : Int} {c : Nat → Int} (h : Tx w t ch len k c) {a ca sa : Nat} (E A B : av_E) (h1 : t ≠ a ∧ t ≠ ca ∧ t ≠ sa) (h2 : ch ≠ a ∧ ch ≠ ca ∧ ch ≠ sa) : Tx (cdW w a ca sa E A B) t ch len k c := ((h.out E h1.1 h2.1).out A h1.2.1 h2.2.1).out B h1.2.2 h2.2.2

set_option maxHeartbeats 4000000 in
theorem c_writeTo (w : av_W) (t ch : Nat) (len k : Int) (tc : Nat → Int) (hT : Tx w t ch len k tc) (hR : CR tc) (hlen : 0 ≤ len ∧ len ≤ 80) (a ca sa : Nat) (v p sh ln pr gd co : Int) (c s : Nat → Int) (hC : Cd w a ca sa v p sh ln pr gd co c s) (hd1 : t ≠ a ∧ t ≠ ca ∧ t ≠ sa) (hd2 : ch ≠ a ∧ ch ≠ ca ∧ ch ≠ sa) (hk : -1 ≤ k ∧ k ≤ 80) (q v2 : Int) (hq : q = if k = -1 then len else k) (hv2 : v2 = (q + 1) / 13) (hK : KR v2 p sh ln) (hp2 : k ≠ -1 → 2 ≤ len - k - 1 ∧ len - k - 1 ≤ 6) (W2 : av_W) (hW1 : k = -1 → W2 = cdW w a ca sa (cdO ca sa v2 p sh ln pr gd co) (arO 48 (preF (v2 * 12) (dgc tc) c)) (arO 6 (preF 6 (inT v2) s))) (hW3 : k ≠ -1 → W2 = cdW w a ca sa (cdO ca sa v2 (len - k - 1) sh ln pr gd co) (arO 48 (preF (v2 * 12) (dgc tc) c)) (arO 6 (preF (len - k - 1) (fun j => dgZ tc (k + 1 + j)) (preF 6 (inT v2) s)))) : fn MX1_writeTo [.ref t, .ref a] w none W2 := by
  obtain ⟨⟨ha, hw⟩, ⟨hca, hcw⟩, ⟨hsa, hsw⟩, hne1, hne2, hne3⟩ := id hC
  obtain ⟨hv, hp, hsh, hln⟩ := id hK
  obtain ⟨⟨ht, htw⟩, ⟨hch, hchw⟩, hne⟩ := id hT
  have hqr : -1 ≤ q ∧ q ≤ 80 := by
    rw [hq]
    split <;> omega
  show rn MX1_writeTo 0 [some (.ref t), some (.ref a), none, none] [] w (fun r' w' => r' = none ∧ w' = W2)
  have loop3 : ∀ (n : Nat) (x : Int) (b3 : Option Value), (0 ≤ x ∧ x ≤ len - k - 1 ∧ len - k ≤ x + n) → (k ≠ -1) → rn MX1_writeTo 101 [some (.ref t), some (.ref a), some (.int (iN x)), b3] [] (cdW w a ca sa (cdO ca sa v2 (len - k - 1) sh ln pr gd co) (arO 48 (preF (v2 * 12) (dgc tc) c)) (arO 6 (preF x (fun j => dgZ tc (k + 1 + j)) (preF 6 (inT v2) s)))) (fun r' w' => r' = none ∧ w' = W2) := by
    intro n
    induction n with
    | zero =>
      intro x b3 hk0 hk1
      exfalso
      omega
    | succ n ih =>
      intro x b3 hk0 hk1
      have hp3 := hp2 hk1
      have hCj := Cd_cdW hC v2 (len - k - 1) sh ln pr gd co (preF (v2 * 12) (dgc tc) c) (preF x (fun j => dgZ tc (k + 1 + j)) (preF 6 (inT v2) s))
      obtain ⟨⟨qaj, qwj⟩, -⟩ := id hCj
      have hTj := Tx_cdW hT (cdO ca sa v2 (len - k - 1) sh ln pr gd co) (arO 48 (preF (v2 * 12) (dgc tc) c)) (arO 6 (preF x (fun j => dgZ tc (k + 1 + j)) (preF 6 (inT v2) s))) hd1 hd2
      obtain ⟨⟨qtj, qtwj⟩, -⟩ := id hTj
      refine r_iload_n (pc2 := 102) dX1_writeTo_101 rfl rfl ?_
      refine r_aload_n (pc2 := 103) dX1_writeTo_102 rfl rfl ?_
      refine r_getf (pc2 := 106) dX1_writeTo_103 rfl fl_1_57 (by assumption) (by assumption) (by rfl) ?_
      refine r_icmp_ge (pc2 := 109) (tgt := 132) dX1_writeTo_106 rfl (by decide) (by omega) (by omega) (fun h106 => ?_) (fun h106 => ?_)
      · have h6 : x = len - k - 1 := by omega
        rw [h6]
        refine r_retv dX1_writeTo_132 rfl ?_
        exact ⟨rfl, (hW3 hk1).symm⟩
      · refine r_aload_n (pc2 := 110) dX1_writeTo_109 rfl rfl ?_
        refine r_iload_n (pc2 := 111) dX1_writeTo_110 rfl rfl ?_
        refine r_aload_n (pc2 := 112) dX1_writeTo_111 rfl rfl ?_
        refine r_aload_n (pc2 := 113) dX1_writeTo_112 rfl rfl ?_
        refine r_getf (pc2 := 116) dX1_writeTo_113 rfl fl_1_19 (by assumption) (by assumption) (by rfl) ?_
        refine r_iconst (pc2 := 117) dX1_writeTo_116 rfl ?_
        refine r_iadd (pc2 := 118) dX1_writeTo_117 rfl ?_
        refine r_iload_n (pc2 := 119) dX1_writeTo_118 rfl rfl ?_
        refine r_iadd (pc2 := 120) dX1_writeTo_119 rfl ?_
        refine r_callv_1 (pc2 := 123) dX1_writeTo_120 rfl rs_1_34 rfl (by decide) rfl (Nat.le_of_ble_eq_true rfl) (Nat.le_of_ble_eq_true rfl) (by assumption) (by assumption) (c_digitAt _ t ch len k tc hTj hR hlen (k + 1 + x) (by unfold RG; omega)) (fun r_ w_ h_ => ?_)
        rw [h_.1, h_.2]
        clear h_ w_ r_
        refine ⟨rfl, ?_⟩
        refine r_callv_2 (pc2 := 126) dX1_writeTo_123 rfl rs_1_60 rfl (by decide) rfl (Nat.le_of_ble_eq_true rfl) (Nat.le_of_ble_eq_true rfl) (by assumption) (by assumption) (c_putSlice _ a ca sa v2 (len - k - 1) sh ln pr gd co _ _ hCj ⟨hv, hp3, hsh, hln⟩ x _ (by omega)) (fun r_ w_ h_ => ?_)
        rw [h_.1, h_.2]
        clear h_ w_ r_
        refine ⟨rfl, ?_⟩
        rw [cdW_sa, show dgZ tc (k + 1 + x) = (fun j : Nat => dgZ tc (k + 1 + (j : Int))) x.toNat by dsimp only; rw [tn hk0.1], preF_step hk0.1]
        refine r_iinc_2 (pc2 := 129) dX1_writeTo_126 rfl rfl ?_
        refine r_goto (tgt := 101) dX1_writeTo_129 (by decide) ?_
        exact ih (x + 1) _ (by omega) hk1
  have loop : ∀ (n : Nat) (x : Int) (b3 : Option Value), (0 ≤ x ∧ x ≤ v2 ∧ v2 + 1 ≤ x + n) → rn MX1_writeTo 28 [some (.ref t), some (.ref a), some (.int (iN x)), b3] [] (cdW w a ca sa (cdO ca sa v2 p sh ln pr gd co) (arO 48 (preF (x * 12) (dgc tc) c)) (arO 6 s)) (fun r' w' => r' = none ∧ w' = W2) := by
    intro n
    induction n with
    | zero =>
      intro x b3 hk0
      exfalso
      omega
    | succ n ih =>
      intro x b3 hk0
      have hCo := Cd_cdW hC v2 p sh ln pr gd co (preF (x * 12) (dgc tc) c) s
      obtain ⟨⟨qao, qwo⟩, -⟩ := id hCo
      have hTo := Tx_cdW hT (cdO ca sa v2 p sh ln pr gd co) (arO 48 (preF (x * 12) (dgc tc) c)) (arO 6 s) hd1 hd2
      obtain ⟨⟨qto, qtwo⟩, -⟩ := id hTo
      refine r_iload_n (pc2 := 29) dX1_writeTo_28 rfl rfl ?_
      refine r_aload_n (pc2 := 30) dX1_writeTo_29 rfl rfl ?_
      refine r_getf (pc2 := 33) dX1_writeTo_30 rfl fl_1_45 (by assumption) (by assumption) (by rfl) ?_
      refine r_icmp_ge (pc2 := 36) (tgt := 72) dX1_writeTo_33 rfl (by decide) (by omega) (by omega) (fun h33 => ?_) (fun h33 => ?_)
      · have h6 : v2 = x := by omega
        subst h6
        refine r_aload_n (pc2 := 73) dX1_writeTo_72 rfl rfl ?_
        refine r_callv_0 (pc2 := 76) dX1_writeTo_73 rfl rs_1_54 rfl (by decide) rfl (Nat.le_of_ble_eq_true rfl) (Nat.le_of_ble_eq_true rfl) (by assumption) (by assumption) (c_resetSlices _ a ca sa v2 p sh ln pr gd co _ _ hCo hK) (fun r_ w_ h_ => ?_)
        rw [h_.1, h_.2]
        clear h_ w_ r_
        refine ⟨rfl, ?_⟩
        rw [cdW_sa]
        have hCr := Cd_cdW hC v2 p sh ln pr gd co (preF (v2 * 12) (dgc tc) c) (preF 6 (inT v2) s)
        obtain ⟨⟨qar, qwr⟩, -⟩ := id hCr
        have hTr := Tx_cdW hT (cdO ca sa v2 p sh ln pr gd co) (arO 48 (preF (v2 * 12) (dgc tc) c)) (arO 6 (preF 6 (inT v2) s)) hd1 hd2
        obtain ⟨⟨qtr, qtwr⟩, -⟩ := id hTr
        refine r_aload_n (pc2 := 77) dX1_writeTo_76 rfl rfl ?_
        refine r_getf (pc2 := 80) dX1_writeTo_77 rfl fl_1_19 (by assumption) (by assumption) (by rfl) ?_
        refine r_iconst (pc2 := 81) dX1_writeTo_80 rfl ?_
        refine r_icmp_eq (pc2 := 84) (tgt := 132) dX1_writeTo_81 rfl (by decide) (by omega) (by omega) (fun h81 => ?_) (fun h81 => ?_)
        · refine r_retv dX1_writeTo_132 rfl ?_
          exact ⟨rfl, (hW1 (by omega)).symm⟩
        · refine r_aload_n (pc2 := 85) dX1_writeTo_84 rfl rfl ?_
          refine r_aload_n (pc2 := 86) dX1_writeTo_85 rfl rfl ?_
          refine r_getf (pc2 := 89) dX1_writeTo_86 rfl fl_1_15 (by assumption) (by assumption) (by rfl) ?_
          refine r_aload_n (pc2 := 90) dX1_writeTo_89 rfl rfl ?_
          refine r_getf (pc2 := 93) dX1_writeTo_90 rfl fl_1_19 (by assumption) (by assumption) (by rfl) ?_
          refine r_isub (pc2 := 94) dX1_writeTo_93 rfl ?_
          refine r_iconst (pc2 := 95) dX1_writeTo_94 rfl ?_
          refine r_isub (pc2 := 96) dX1_writeTo_95 rfl ?_
          refine r_putf (pc2 := 99) dX1_writeTo_96 rfl fl_1_57 (by assumption) (by assumption) (by exact Nat.le_of_ble_eq_true rfl) (by rfl) (by rfl) (by rfl) ?_
          rw [cdW_a _ _ _ _ _ hne1 hne2]
          show rn _ _ _ _ (cdW w a ca sa (cdO ca sa v2 (len - k - 1) sh ln pr gd co) (arO 48 (preF (v2 * 12) (dgc tc) c)) (arO 6 (preF 6 (inT v2) s))) _
          refine r_iconst (pc2 := 100) dX1_writeTo_99 rfl ?_
          refine r_ist_2 (pc2 := 101) dX1_writeTo_100 rfl rfl ?_
          have := loop3 (len - k).toNat 0 b3 (by omega) h81
          rw [preF_0] at this
          exact this
      · have inner : ∀ (n2 : Nat) (y : Int), (0 ≤ y ∧ y ≤ 12 ∧ 13 ≤ y + n2) → rn MX1_writeTo 38 [some (.ref t), some (.ref a), some (.int (iN x)), some (.int (iN y))] [] (cdW w a ca sa (cdO ca sa v2 p sh ln pr gd co) (arO 48 (preF (x * 12 + y) (dgc tc) c)) (arO 6 s)) (fun r' w' => r' = none ∧ w' = W2) := by
          intro n2
          induction n2 with
          | zero =>
            intro y hl0
            exfalso
            omega
          | succ n2 ih2 =>
            intro y hl0
            have hCi := Cd_cdW hC v2 p sh ln pr gd co (preF (x * 12 + y) (dgc tc) c) s
            obtain ⟨⟨qai, qwi⟩, -⟩ := id hCi
            have hTi := Tx_cdW hT (cdO ca sa v2 p sh ln pr gd co) (arO 48 (preF (x * 12 + y) (dgc tc) c)) (arO 6 s) hd1 hd2
            obtain ⟨⟨qti, qtwi⟩, -⟩ := id hTi
            refine r_iload_n (pc2 := 39) dX1_writeTo_38 rfl rfl ?_
            refine r_bipush (pc2 := 41) dX1_writeTo_39 rfl (by decide) ?_
            refine r_icmp_ge (pc2 := 44) (tgt := 66) dX1_writeTo_41 rfl (by decide) (by omega) (by omega) (fun h41 => ?_) (fun h41 => ?_)
            · have h6 : y = 12 := by omega
              subst h6
              rw [show x * 12 + 12 = (x + 1) * 12 by omega]
              refine r_iinc_2 (pc2 := 69) dX1_writeTo_66 rfl rfl ?_
              refine r_goto (tgt := 28) dX1_writeTo_69 (by decide) ?_
              exact ih (x + 1) _ (by omega)
            · refine r_aload_n (pc2 := 45) dX1_writeTo_44 rfl rfl ?_
              refine r_iload_n (pc2 := 46) dX1_writeTo_45 rfl rfl ?_
              refine r_iload_n (pc2 := 47) dX1_writeTo_46 rfl rfl ?_
              refine r_aload_n (pc2 := 48) dX1_writeTo_47 rfl rfl ?_
              refine r_iload_n (pc2 := 49) dX1_writeTo_48 rfl rfl ?_
              refine r_bipush (pc2 := 51) dX1_writeTo_49 rfl (by decide) ?_
              refine r_imul (pc2 := 52) dX1_writeTo_51 rfl ?_
              refine r_iload_n (pc2 := 53) dX1_writeTo_52 rfl rfl ?_
              refine r_iadd (pc2 := 54) dX1_writeTo_53 rfl ?_
              refine r_callv_1 (pc2 := 57) dX1_writeTo_54 rfl rs_1_34 rfl (by decide) rfl (Nat.le_of_ble_eq_true rfl) (Nat.le_of_ble_eq_true rfl) (by assumption) (by assumption) (c_digitAt _ t ch len k tc hTi hR hlen (x * 13 + y) (by unfold RG; omega)) (fun r_ w_ h_ => ?_)
              rw [h_.1, h_.2]
              clear h_ w_ r_
              refine ⟨rfl, ?_⟩
              refine r_callv_3 (pc2 := 60) dX1_writeTo_57 rfl rs_1_50 rfl (by decide) rfl (Nat.le_of_ble_eq_true rfl) (Nat.le_of_ble_eq_true rfl) (by assumption) (by assumption) (c_paint _ a ca sa v2 p sh ln pr gd co _ _ hCi hK x y _ (by omega) (by omega)) (fun r_ w_ h_ => ?_)
              rw [h_.1, h_.2]
              clear h_ w_ r_
              refine ⟨rfl, ?_⟩
              rw [cdW_ca _ _ _ _ _ hne3, ← dgc_at (by omega) (by omega), preF_step (by omega), show x * 12 + y + 1 = x * 12 + (y + 1) by omega]
              refine r_iinc_3 (pc2 := 63) dX1_writeTo_60 rfl rfl ?_
              refine r_goto (tgt := 38) dX1_writeTo_63 (by decide) ?_
              exact ih2 (y + 1) (by omega)
        refine r_iconst (pc2 := 37) dX1_writeTo_36 rfl ?_
        refine r_ist_3 (pc2 := 38) dX1_writeTo_37 rfl rfl ?_
        have := inner 13 0 (by omega)
        rw [Int.add_zero] at this
        exact this
  have rest : rn MX1_writeTo 20 [some (.ref t), some (.ref a), none, none] [.int (iN q), .ref a] w (fun r' w' => r' = none ∧ w' = W2) := by
    refine r_calls_1 (pc2 := 23) dX1_writeTo_20 rfl rs_1_38 rfl (by decide) rfl (Nat.le_of_ble_eq_true rfl) (Nat.le_of_ble_eq_true rfl) (c_viewsUpTo _ q (by omega)) (fun r_ w_ h_ => ?_)
    rw [h_.1, h_.2]
    clear h_ w_ r_
    refine ⟨rfl, ?_⟩
    rw [← hv2]
    refine r_putf (pc2 := 26) dX1_writeTo_23 rfl fl_1_45 (by assumption) (by assumption) (by exact Nat.le_of_ble_eq_true rfl) (by rfl) (by rfl) (by rfl) ?_
    have hw0 : wst w a (cdO ca sa v2 p sh ln pr gd co) = (cdW w a ca sa (cdO ca sa v2 p sh ln pr gd co) (arO 48 (preF (0 * 12) (dgc tc) c)) (arO 6 s)) := by
      rw [show (0 : Int) * 12 = 0 from rfl, preF_0, ← cdW_a w (cdO ca sa v p sh ln pr gd co) (arO 48 c) (arO 6 s) (cdO ca sa v2 p sh ln pr gd co) hne1 hne2, cdW_id hw hcw hsw]
    show rn _ _ _ _ (wst w a (cdO ca sa v2 p sh ln pr gd co)) _
    rw [hw0]
    refine r_iconst (pc2 := 27) dX1_writeTo_26 rfl ?_
    refine r_ist_2 (pc2 := 28) dX1_writeTo_27 rfl rfl ?_
    exact loop (v2.toNat + 1) 0 _ (by omega)
  refine r_aload_n (pc2 := 1) dX1_writeTo_0 rfl rfl ?_
  refine r_aload_n (pc2 := 2) dX1_writeTo_1 rfl rfl ?_
  refine r_getf (pc2 := 5) dX1_writeTo_2 rfl fl_1_19 (by assumption) (by assumption) (by rfl) ?_
  refine r_iconst (pc2 := 6) dX1_writeTo_5 rfl ?_
  refine r_icmp_ne (pc2 := 9) (tgt := 16) dX1_writeTo_6 rfl (by decide) (by omega) (by omega) (fun h6 => ?_) (fun h6 => ?_)
  · refine r_aload_n (pc2 := 17) dX1_writeTo_16 rfl rfl ?_
    refine r_getf (pc2 := 20) dX1_writeTo_17 rfl fl_1_19 (by assumption) (by assumption) (by rfl) ?_
    have rest2 := rest
    first | (rw [show q = k by rw [hq]; exact if_neg (by omega)] at rest2; exact rest2) | (rw [show q = len by rw [hq]; exact if_pos (by omega)] at rest2; exact rest2)
  · refine r_aload_n (pc2 := 10) dX1_writeTo_9 rfl rfl ?_
    refine r_getf (pc2 := 13) dX1_writeTo_10 rfl fl_1_15 (by assumption) (by assumption) (by rfl) ?_
    refine r_goto (tgt := 20) dX1_writeTo_13 (by decide) ?_
    have rest2 := rest
    first | (rw [show q = k by rw [hq]; exact if_neg (by omega)] at rest2; exact rest2) | (rw [show q = len by rw [hq]; exact if_pos (by omega)] at rest2; exact rest2)
