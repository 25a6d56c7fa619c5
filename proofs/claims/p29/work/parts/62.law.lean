/-! the law, from its start -/
set_option maxHeartbeats 4000000 in
theorem law_h (L : Nat) (xs : Nat → Int32) (hL : L ≤ 260) (w4 : av_W) {V U : CV} {l1 l2 : Int} {t u : Nat → Int} (J : JJ (.inl (3, L, .inl xs)) (stW (.inl (3, L, .inl xs)) w4) V U l1 l2 t u) (hS : SC V U) : rn ML_law 16 [some (.ref av_scr), some (.ref 0), some (.ref 33), none, none] [] (stW (.inl (3, L, .inl xs)) w4) (fun r' w' => r' = some (.int (iN 1)) ∧ w'.1 = 66) := by
  have n_ := J.1
  have lp : ∀ (n : Nat) (k : Int) (wk : av_W), (2 ≤ k ∧ k ≤ 44 ∧ 45 ≤ k + n) → (JM (.inl (3, L, .inl xs)) wk) → rn ML_law 35 [some (.ref av_scr), some (.ref 0), some (.ref 33), some (.int (iN 1)), some (.int (iN k))] [] wk (fun r' w' => r' = some (.int (iN 1)) ∧ w'.1 = 66) := by
    intro n
    induction n with
    | zero =>
      intro k wk hk0 hk1
      exfalso
      omega
    | succ n ih =>
      intro k wk hk0 hk1
      have hJM := hk1
      obtain ⟨V9, U9, l9, m9, t9, u9, J, hM⟩ := id hJM
      have n_ := J.1
      have htm : k.tmod 7 = k % 7 := Int.tmod_eq_emod_of_nonneg (by omega)
      refine r_iload (pc2 := 37) dL_law_35 rfl rfl ?_
      refine r_bipush (pc2 := 39) dL_law_37 rfl (by decide) ?_
      refine r_icmp_ge (pc2 := 42) (tgt := 106) dL_law_39 rfl (by decide) (by omega) (by omega) (fun h39 => ?_) (fun h39 => ?_)
      · refine r_iload_n (pc2 := 107) dL_law_106 rfl rfl ?_
        refine r_if_eq (pc2 := 110) (tgt := 135) dL_law_107 rfl (by decide) (by omega) (fun h107 => ?_) (fun h107 => ?_)
        · exfalso
          omega
        · refine r_aload_n (pc2 := 111) dL_law_110 rfl rfl ?_
          refine r_aload_n (pc2 := 112) dL_law_111 rfl rfl ?_
          refine r_bipush (pc2 := 114) dL_law_112 rfl (by decide) ?_
          refine r_calls_2 (pc2 := 117) dL_law_114 rfl rs_99_96 rfl (by decide) rfl (Nat.le_of_ble_eq_true rfl) (Nat.le_of_ble_eq_true rfl) (l_cell _ L xs J.2.1 (by omega) 44 (by omega)) (fun r_ w_ h_ => ?_)
          obtain ⟨⟨zd, e_, -⟩, e2_⟩ := h_
          rw [e_, e2_]
          clear e_ e2_ w_ r_
          refine ⟨rfl, ?_⟩
          refine r_calls_2 (pc2 := 120) dL_law_117 rfl rs_99_103 rfl (by decide) rfl (Nat.le_of_ble_eq_true rfl) (Nat.le_of_ble_eq_true rfl) (l_isWell hJM _) (fun r_ w_ h_ => ?_)
          obtain ⟨e_, hJM⟩ := h_
          obtain ⟨V9, U9, l9, m9, t9, u9, J, hM⟩ := id hJM
          rw [e_]
          clear e_ r_
          have n_ := J.1
          refine ⟨by omega, ?_⟩
          refine r_if_eq (pc2 := 123) (tgt := 135) dL_law_120 rfl (by decide) (by omega) (fun h120 => ?_) (fun h120 => ?_)
          · exfalso
            omega
          · refine r_aload_n (pc2 := 124) dL_law_123 rfl rfl ?_
            refine r_aload_n (pc2 := 125) dL_law_124 rfl rfl ?_
            refine r_calls_2 (pc2 := 128) dL_law_125 rfl rs_99_107 rfl (by decide) rfl (Nat.le_of_ble_eq_true rfl) (Nat.le_of_ble_eq_true rfl) (l_areAlike hJM) (fun r_ w_ h_ => ?_)
            obtain ⟨e_, hJM⟩ := h_
            obtain ⟨V9, U9, l9, m9, t9, u9, J, hM⟩ := id hJM
            rw [e_]
            clear e_ r_
            have n_ := J.1
            refine ⟨by omega, ?_⟩
            refine r_if_eq (pc2 := 131) (tgt := 135) dL_law_128 rfl (by decide) (by omega) (fun h128 => ?_) (fun h128 => ?_)
            · exfalso
              omega
            · refine r_iconst (pc2 := 132) dL_law_131 rfl ?_
              refine r_goto (tgt := 136) dL_law_132 (by decide) ?_
              refine r_retb dL_law_136 rfl (by first | exact Or.inl rfl | exact Or.inr rfl | exact bz_01) ?_
              exact ⟨rfl, J.1⟩
      · refine r_iload_n (pc2 := 43) dL_law_42 rfl rfl ?_
        refine r_if_eq (pc2 := 46) (tgt := 106) dL_law_43 rfl (by decide) (by omega) (fun h43 => ?_) (fun h43 => ?_)
        · exfalso
          omega
        · refine r_aload_n (pc2 := 47) dL_law_46 rfl rfl ?_
          refine r_aload_n (pc2 := 48) dL_law_47 rfl rfl ?_
          refine r_aload_n (pc2 := 49) dL_law_48 rfl rfl ?_
          refine r_iload (pc2 := 51) dL_law_49 rfl rfl ?_
          refine r_calls_2 (pc2 := 54) dL_law_51 rfl rs_99_96 rfl (by decide) rfl (Nat.le_of_ble_eq_true rfl) (Nat.le_of_ble_eq_true rfl) (l_cell _ L xs J.2.1 (by omega) k (by omega)) (fun r_ w_ h_ => ?_)
          obtain ⟨⟨za, e_, -⟩, e2_⟩ := h_
          rw [e_, e2_]
          clear e_ e2_ w_ r_
          refine ⟨rfl, ?_⟩
          refine r_aload_n (pc2 := 55) dL_law_54 rfl rfl ?_
          refine r_iload (pc2 := 57) dL_law_55 rfl rfl ?_
          refine r_iconst (pc2 := 58) dL_law_57 rfl ?_
          refine r_iadd (pc2 := 59) dL_law_58 rfl ?_
          refine r_calls_2 (pc2 := 62) dL_law_59 rfl rs_99_96 rfl (by decide) rfl (Nat.le_of_ble_eq_true rfl) (Nat.le_of_ble_eq_true rfl) (l_cell _ L xs J.2.1 (by omega) (k + 1) (by omega)) (fun r_ w_ h_ => ?_)
          obtain ⟨⟨zb, e_, -⟩, e2_⟩ := h_
          rw [e_, e2_]
          clear e_ e2_ w_ r_
          refine ⟨rfl, ?_⟩
          refine r_iconst (pc2 := 63) dL_law_62 rfl ?_
          refine r_zshr (pc2 := 64) dL_law_63 rfl ?_
          refine r_calls_4 (pc2 := 67) dL_law_64 rfl rs_99_100 rfl (by decide) rfl (Nat.le_of_ble_eq_true rfl) (Nat.le_of_ble_eq_true rfl) (l_isStep hJM _ _) (fun r_ w_ h_ => ?_)
          obtain ⟨e_, hJM⟩ := h_
          obtain ⟨V9, U9, l9, m9, t9, u9, J, hM⟩ := id hJM
          rw [e_]
          clear e_ r_
          have n_ := J.1
          refine ⟨by omega, ?_⟩
          refine r_if_eq (pc2 := 70) (tgt := 98) dL_law_67 rfl (by decide) (by omega) (fun h67 => ?_) (fun h67 => ?_)
          · exfalso
            omega
          · refine r_iload (pc2 := 72) dL_law_70 rfl rfl ?_
            refine r_bipush (pc2 := 74) dL_law_72 rfl (by decide) ?_
            refine r_irem (pc2 := 75) dL_law_74 rfl (by omega) (by omega) (by omega) (by omega) ?_
            refine r_if_gt (pc2 := 78) (tgt := 94) dL_law_75 rfl (by decide) (by omega) (fun h75 => ?_) (fun h75 => ?_)
            · refine r_iconst (pc2 := 95) dL_law_94 rfl ?_
              refine r_goto (tgt := 99) dL_law_95 (by decide) ?_
              refine r_ist_3 (pc2 := 100) dL_law_99 rfl rfl ?_
              refine r_iinc_4 (pc2 := 103) dL_law_100 rfl rfl ?_
              refine r_goto (tgt := 35) dL_law_103 (by decide) ?_
              exact ih (k + 1) _ (by omega) hJM
            · refine r_aload_n (pc2 := 79) dL_law_78 rfl rfl ?_
              refine r_aload_n (pc2 := 80) dL_law_79 rfl rfl ?_
              refine r_iload (pc2 := 82) dL_law_80 rfl rfl ?_
              refine r_calls_2 (pc2 := 85) dL_law_82 rfl rs_99_96 rfl (by decide) rfl (Nat.le_of_ble_eq_true rfl) (Nat.le_of_ble_eq_true rfl) (l_cell _ L xs J.2.1 (by omega) k (by omega)) (fun r_ w_ h_ => ?_)
              obtain ⟨⟨zc, e_, -⟩, e2_⟩ := h_
              rw [e_, e2_]
              clear e_ e2_ w_ r_
              refine ⟨rfl, ?_⟩
              refine r_bipush (pc2 := 87) dL_law_85 rfl (by decide) ?_
              refine r_zshr (pc2 := 88) dL_law_87 rfl ?_
              refine r_calls_2 (pc2 := 91) dL_law_88 rfl rs_99_103 rfl (by decide) rfl (Nat.le_of_ble_eq_true rfl) (Nat.le_of_ble_eq_true rfl) (l_isWell hJM _) (fun r_ w_ h_ => ?_)
              obtain ⟨e_, hJM⟩ := h_
              obtain ⟨V9, U9, l9, m9, t9, u9, J, hM⟩ := id hJM
              rw [e_]
              clear e_ r_
              have n_ := J.1
              refine ⟨by omega, ?_⟩
              refine r_if_eq (pc2 := 94) (tgt := 98) dL_law_91 rfl (by decide) (by omega) (fun h91 => ?_) (fun h91 => ?_)
              · exfalso
                omega
              · refine r_iconst (pc2 := 95) dL_law_94 rfl ?_
                refine r_goto (tgt := 99) dL_law_95 (by decide) ?_
                refine r_ist_3 (pc2 := 100) dL_law_99 rfl rfl ?_
                refine r_iinc_4 (pc2 := 103) dL_law_100 rfl rfl ?_
                refine r_goto (tgt := 35) dL_law_103 (by decide) ?_
                exact ih (k + 1) _ (by omega) hJM
  refine r_aload_n (pc2 := 17) dL_law_16 rfl rfl ?_
  refine r_aload_n (pc2 := 18) dL_law_17 rfl rfl ?_
  refine r_aload_n (pc2 := 19) dL_law_18 rfl rfl ?_
  refine r_iconst (pc2 := 20) dL_law_19 rfl ?_
  refine r_calls_2 (pc2 := 23) dL_law_20 rfl rs_99_96 rfl (by decide) rfl (Nat.le_of_ble_eq_true rfl) (Nat.le_of_ble_eq_true rfl) (l_cell _ L xs J.2.1 (by omega) 0 (by omega)) (fun r_ w_ h_ => ?_)
  obtain ⟨⟨za, e_, -⟩, e2_⟩ := h_
  rw [e_, e2_]
  clear e_ e2_ w_ r_
  refine ⟨rfl, ?_⟩
  refine r_aload_n (pc2 := 24) dL_law_23 rfl rfl ?_
  refine r_iconst (pc2 := 25) dL_law_24 rfl ?_
  refine r_calls_2 (pc2 := 28) dL_law_25 rfl rs_99_96 rfl (by decide) rfl (Nat.le_of_ble_eq_true rfl) (Nat.le_of_ble_eq_true rfl) (l_cell _ L xs J.2.1 (by omega) 1 (by omega)) (fun r_ w_ h_ => ?_)
  obtain ⟨⟨zb, e_, -⟩, e2_⟩ := h_
  rw [e_, e2_]
  clear e_ e2_ w_ r_
  refine ⟨rfl, ?_⟩
  refine r_calls_4 (pc2 := 31) dL_law_28 rfl rs_99_51 rfl (by decide) rfl (Nat.le_of_ble_eq_true rfl) (Nat.le_of_ble_eq_true rfl) (l_isRead J hS _ _) (fun r_ w_ h_ => ?_)
  obtain ⟨e_, hJM⟩ := h_
  obtain ⟨V9, U9, l9, m9, t9, u9, J, hM⟩ := id hJM
  rw [e_]
  clear e_ r_
  have n_ := J.1
  refine ⟨by omega, ?_⟩
  refine r_ist_3 (pc2 := 32) dL_law_31 rfl rfl ?_
  refine r_iconst (pc2 := 33) dL_law_32 rfl ?_
  refine r_ist_4 (pc2 := 35) dL_law_33 rfl rfl ?_
  exact lp 45 2 _ (by omega) hJM

theorem law_g (L : Nat) (xs : Nat → Int32) {P : Option Value → av_W → Prop} (w1 w2 w3 w4 : av_W) (hb1 : arun 3000 MX4_init 0 [some (.ref 0)] [] w1 = some (none, w2)) (h1 : w1 = (1, 9, av_up (fun _ => .inr (0, [])) 0 (.inr (4, av_df 4)))) (n2 : w2.1 = 33) (wf2 : av_wf [some (.ref av_scr), some (.ref 0), none, none, none] [] w2 = true) (h3 : w3 = (w2.1 + 1, w2.2.1 + 9, av_up w2.2.2 33 (.inr (4, av_df 4)))) (hb2 : arun 3000 MX4_init 0 [some (.ref 33)] [] w3 = some (none, w4)) (hend : rn ML_law 16 [some (.ref av_scr), some (.ref 0), some (.ref 33), none, none] [] (stW (.inl (3, L, .inl xs)) w4) P) : rn ML_law 0 av_l0 [] (av_w0 L xs) P := by
  have wf0 : av_wf av_l0 [] (av_w0 L xs) = true := by
    simp [av_wf, av_l0, av_wl, av_ww, av_w0, av_wv]
  have n1 : w1.1 = 1 := by rw [h1]
  have n3 : w3.1 = 34 := by rw [h3, n2]
  refine r_new (ci := 4) (pc2 := 3) dL_law_0 rfl rfl wf0 ?_
  have e1 : (((av_w0 L xs).1 + 1, (av_w0 L xs).2.1 + av_N 4, av_up (av_w0 L xs).2.2 (av_w0 L xs).1 (.inr (4, av_df 4))) : av_W) = stW (.inl (3, L, .inl xs)) w1 := by
    have q := stW_up2 (w := ((0, 0, fun _ => .inr (0, [])) : av_W)) (ev := (.inl (3, L, .inl xs))) (x := .inr (4, av_df 4)) (by decide)
    rw [h1]
    show ((1, 9, av_up (av_up (fun _ => .inr (0, [])) av_scr (.inl (3, L, .inl xs))) 0 (.inr (4, av_df 4))) : av_W) = (1, 9, av_up (av_up (fun _ => .inr (0, [])) 0 (.inr (4, av_df 4))) av_scr (.inl (3, L, .inl xs)))
    exact congrArg (fun z => ((1, 9, z) : av_W)) q
  rw [e1, show (av_w0 L xs).1 = 0 from rfl]
  refine r_dup (pc2 := 4) dL_law_3 rfl rfl ?_
  have c1 : cl MX4_init [.ref 0] (stW (.inl (3, L, .inl xs)) w1) (fun r' w' => r' = none ∧ w' = stW (.inl (3, L, .inl xs)) w2) := ⟨3000, none, _, arun_st _ _ _ _ _ _ _ _ _ (by decide) (by rw [n1]; decide) hb1, rfl, rfl⟩
  refine r_init (pc2 := 7) dL_law_4 rfl rs_99_95 (Or.inl rfl) (by decide) rfl (by decide) (by decide) c1 (fun r w2' q => ?_)
  rw [q.1, q.2]
  have m1 : (stW (.inl (3, L, .inl xs)) w1).1 = 1 := n1
  refine ⟨by simp [av_back, av_wl, av_wv, av_l0, m1], ?_⟩
  refine r_ast_1 (pc2 := 8) dL_law_7 rfl rfl ?_
  refine r_new (ci := 4) (pc2 := 11) dL_law_8 rfl rfl (stW_wf (by rw [n2]; decide) wf2) ?_
  have e2 : (stW (.inl (3, L, .inl xs)) w2).1 = 33 := n2
  have e3 : ((((stW (.inl (3, L, .inl xs)) w2).1 + 1, (stW (.inl (3, L, .inl xs)) w2).2.1 + av_N 4, av_up (stW (.inl (3, L, .inl xs)) w2).2.2 (stW (.inl (3, L, .inl xs)) w2).1 (.inr (4, av_df 4))) : av_W)) = stW (.inl (3, L, .inl xs)) w3 := by
    have q := stW_up2 (w := w2) (ev := (.inl (3, L, .inl xs))) (x := .inr (4, av_df 4)) (by rw [n2]; decide)
    rw [h3, e2]
    rw [n2] at q ⊢
    show ((33 + 1, w2.2.1 + 9, av_up (av_up w2.2.2 av_scr (.inl (3, L, .inl xs))) 33 (.inr (4, av_df 4))) : av_W) = (33 + 1, w2.2.1 + 9, av_up (av_up w2.2.2 33 (.inr (4, av_df 4))) av_scr (.inl (3, L, .inl xs)))
    exact congrArg (fun z => ((33 + 1, w2.2.1 + 9, z) : av_W)) q
  rw [e3, e2]
  refine r_dup (pc2 := 12) dL_law_11 rfl rfl ?_
  have c2 : cl MX4_init [.ref 33] (stW (.inl (3, L, .inl xs)) w3) (fun r' w' => r' = none ∧ w' = stW (.inl (3, L, .inl xs)) w4) := ⟨3000, none, _, arun_st _ _ _ _ _ _ _ _ _ (by decide) (by rw [n3]; decide) hb2, rfl, rfl⟩
  refine r_init (pc2 := 15) dL_law_12 rfl rs_99_95 (Or.inl rfl) (by decide) rfl (by decide) (by decide) c2 (fun r w2' q => ?_)
  rw [q.1, q.2]
  have m3 : (stW (.inl (3, L, .inl xs)) w3).1 = 34 := n3
  refine ⟨by simp [av_back, av_wl, av_wv, m3], ?_⟩
  refine r_ast_2 (pc2 := 16) dL_law_15 rfl rfl ?_
  exact hend
theorem SC_cv (w w2 : av_W) : SC (cvA w 2) (cvA w2 2) := ⟨rfl, rfl, rfl, rfl, rfl⟩
theorem law_k (L : Nat) (xs : Nat → Int32) (hL : L ≤ 260) (w4 : av_W) (n : w4.1 = 66) {V U : CV} {l1 l2 : Int} {t u : Nat → Int} (J : JJ (.inl (3, L, .inl xs)) (stW (.inl (3, L, .inl xs)) w4) V U l1 l2 t u) (hS : SC V U) : rn ML_law 16 [some (.ref av_scr), some (.ref 0), some (.ref 33), none, none] [] (stW (.inl (3, L, .inl xs)) w4) (fun r' w' => r' = some (.int 1) ∧ w'.1 = 66 ∧ w'.2.1 = w4.2.1) := by
  obtain ⟨f, r, w2, h1, h2, h3⟩ := law_h L xs hL w4 J hS
  refine ⟨f, r, w2, h1, h2, h3, (av_mk f _ _ _ _ _ _ _ h1).2 ?_⟩
  rw [h3]
  exact n.symm
theorem law_run (L : Nat) (xs : Nat → Int32) (hL : L ≤ 260) : ∃ w4 : av_W, w4.2.1 ≤ 7302250 ∧ rn ML_law 0 av_l0 [] (av_w0 L xs) (fun r' w' => r' = some (.int 1) ∧ w'.1 = 66 ∧ w'.2.1 = w4.2.1) :=
  ⟨wE4, wE4_n.2, law_g L xs wE1 wE2 wE3 wE4 bt1_ok rfl wE2_n wE2_wf rfl bt2_ok (law_k L xs hL wE4 wE4_n.1 (boot_J L xs) (SC_cv _ _))⟩
theorem hpure (L : Nat) (xs : Nat → Int32) (hL : L ≤ 260) : ∃ (f : Nat) (wF : av_W), arun f ML_law 0 av_l0 [] (av_w0 L xs) = some (some (.int 1), wF) ∧ wF.1 ≤ 600000 ∧ wF.2.1 ≤ 7302250 := by
  obtain ⟨w4, h0, f, r, w2, h1, h2, h3, h4⟩ := law_run L xs hL
  subst h2
  exact ⟨f, w2, h1, by rw [h3]; decide, by rw [h4]; exact h0⟩
