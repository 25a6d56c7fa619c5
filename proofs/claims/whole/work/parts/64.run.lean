/-! the law, from its start -/
theorem stW_scr {e : av_E} {w : av_W} : (stW e w).2.2 av_scr = e := by
  show (if av_scr = av_scr then e else w.2.2 av_scr) = e
  exact if_pos rfl
theorem law_g (L : Nat) (xs : Nat → Int32) {P : Option Value → av_W → Prop} (w1 w2 w3 w4 : av_W) (hb1 : arun 3000 MX4_init 0 [some (.ref 0)] [] w1 = some (none, w2)) (h1 : w1 = (1, 9, av_up (fun _ => .inr (0, [])) 0 (.inr (4, av_df 4)))) (n2 : w2.1 = 33) (wf2 : av_wf [some (.ref av_scr), some (.ref 0), none, none] [] w2 = true) (h3 : w3 = (w2.1 + 1, w2.2.1 + 15, av_up w2.2.2 33 (.inr (5, av_df 5)))) (hb2 : arun 3000 MX5_init 0 [some (.ref 33)] [] w3 = some (none, w4)) (hend : rn ML_law 18 [some (.ref av_scr), some (.ref 0), some (.ref 33), some (.int (iN 0))] [] (stW (.inl (3, L, .inl xs)) w4) P) : rn ML_law 0 av_l0 [] (av_w0 L xs) P := by
  have wf0 : av_wf av_l0 [] (av_w0 L xs) = true := by
    simp [av_wf, av_l0, av_wl, av_ww, av_w0, av_wv]
  have n1 : w1.1 = 1 := by rw [h1]
  have n3 : w3.1 = 34 := by rw [h3, n2]
  refine r_new (ci := 4) (pc2 := 3) dL_law_0 rfl rfl wf0 ?_
  have e1 : (((av_w0 L xs).1 + 1, (av_w0 L xs).2.1 + av_N 4, av_up (av_w0 L xs).2.2 (av_w0 L xs).1 (.inr (4, av_df 4))) : av_W) = stW (.inl (3, L, .inl xs)) w1 := by
    have q := stW_up2 (w := ((0, 0, fun _ => .inr (0, [])) : av_W)) (ev := (.inl (3, L, .inl xs))) (x := .inr (4, av_df 4)) (by decide)
    rw [h1]
    show ((1, 9, av_up (av_up (fun _ => .inr (0, [])) av_scr (.inl (3, L, .inl xs))) 0 (.inr (4, av_df 4))) : av_W) = (1, 9, av_up (av_up (fun _ => .inr (0, [])) 0 (.inr (4, av_df 4))) av_scr (.inl (3, L, .inl xs)))
    exact congrArg (fun z => ((1, 9, z) : av_W)) q
  rw [e1, show (av_w0 L xs).1 = 0 from rfl]
  refine r_dup (pc2 := 4) dL_law_3 rfl rfl ?_
  have c1 : cl MX4_init [.ref 0] (stW (.inl (3, L, .inl xs)) w1) (fun r' w' => r' = none ∧ w' = stW (.inl (3, L, .inl xs)) w2) := ⟨3000, none, _, arun_st _ _ _ _ _ _ _ _ _ (by decide) (by rw [n1]; decide) hb1, rfl, rfl⟩
  refine r_init (pc2 := 7) dL_law_4 rfl rs_99_9 (Or.inl rfl) (by decide) rfl (by decide) (by decide) c1 (fun r w2' q => ?_)
  rw [q.1, q.2]
  have m1 : (stW (.inl (3, L, .inl xs)) w1).1 = 1 := n1
  refine ⟨by simp [av_back, av_wl, av_wv, av_l0, m1], ?_⟩
  refine r_ast_1 (pc2 := 8) dL_law_7 rfl rfl ?_
  refine r_new (ci := 5) (pc2 := 11) dL_law_8 rfl rfl (stW_wf (by rw [n2]; decide) wf2) ?_
  have e2 : (stW (.inl (3, L, .inl xs)) w2).1 = 33 := n2
  have e3 : ((((stW (.inl (3, L, .inl xs)) w2).1 + 1, (stW (.inl (3, L, .inl xs)) w2).2.1 + av_N 5, av_up (stW (.inl (3, L, .inl xs)) w2).2.2 (stW (.inl (3, L, .inl xs)) w2).1 (.inr (5, av_df 5))) : av_W)) = stW (.inl (3, L, .inl xs)) w3 := by
    have q := stW_up2 (w := w2) (ev := (.inl (3, L, .inl xs))) (x := .inr (5, av_df 5)) (by rw [n2]; decide)
    rw [h3, e2]
    rw [n2] at q ⊢
    show ((33 + 1, w2.2.1 + 15, av_up (av_up w2.2.2 av_scr (.inl (3, L, .inl xs))) 33 (.inr (5, av_df 5))) : av_W) = (33 + 1, w2.2.1 + 15, av_up (av_up w2.2.2 33 (.inr (5, av_df 5))) av_scr (.inl (3, L, .inl xs)))
    exact congrArg (fun z => ((33 + 1, w2.2.1 + 15, z) : av_W)) q
  rw [e3, e2]
  refine r_dup (pc2 := 12) dL_law_11 rfl rfl ?_
  have c2 : cl MX5_init [.ref 33] (stW (.inl (3, L, .inl xs)) w3) (fun r' w' => r' = none ∧ w' = stW (.inl (3, L, .inl xs)) w4) := ⟨3000, none, _, arun_st _ _ _ _ _ _ _ _ _ (by decide) (by rw [n3]; decide) hb2, rfl, rfl⟩
  refine r_init (pc2 := 15) dL_law_12 rfl rs_99_12 (Or.inl rfl) (by decide) rfl (by decide) (by decide) c2 (fun r w2' q => ?_)
  rw [q.1, q.2]
  have m3 : (stW (.inl (3, L, .inl xs)) w3).1 = 34 := n3
  refine ⟨by simp [av_back, av_wl, av_wv, m3], ?_⟩
  refine r_ast_2 (pc2 := 16) dL_law_15 rfl rfl ?_
  refine r_iconst (pc2 := 17) dL_law_16 rfl ?_
  refine r_ist_3 (pc2 := 18) dL_law_17 rfl rfl ?_
  exact hend
theorem law_h (L : Nat) (xs : Nat → Int32) (hL : L ≤ 2048) (w4 : av_W) (n : w4.1 = 42) (zb : ZB w4) (hc : chkW w4 = true) : rn ML_law 18 [some (.ref av_scr), some (.ref 0), some (.ref 33), some (.int (iN 0))] [] (stW (.inl (3, L, .inl xs)) w4) (fun r' w' => r' = some (.int 1) ∧ w'.1 = 42 ∧ w'.2.1 = w4.2.1) := by
  have J4 : JW (.inl (3, L, .inl xs)) (stW (.inl (3, L, .inl xs)) w4) := by
    obtain ⟨b1, b2, b3, b4, b5⟩ := boot_J n zb hc (.inl (3, L, .inl xs))
    exact ⟨n, stW_scr, _, _, _, _, _, _, _, b1, b2, ⟨b3, b4⟩, by decide, fun i hi => absurd hi (by omega), Or.inl rfl, fun q => absurd q (by decide), b5, by decide⟩
  obtain ⟨f, r, w2, h1, h2, h3⟩ := law_loop L xs hL (L + 1) 0 _ (by omega) J4
  refine ⟨f, r, w2, h1, h2, h3, (av_mk f _ _ _ _ _ _ _ h1).2 ?_⟩
  rw [h3]
  exact n.symm
theorem law_run (L : Nat) (xs : Nat → Int32) (hL : L ≤ 2048) : ∃ w4 : av_W, w4.2.1 ≤ 7302249 ∧ rn ML_law 0 av_l0 [] (av_w0 L xs) (fun r' w' => r' = some (.int 1) ∧ w'.1 = 42 ∧ w'.2.1 = w4.2.1) :=
  ⟨wE4, wE4_n.2, law_g L xs wE1 wE2 wE3 wE4 bt1_ok rfl wE2_n wE2_wf rfl bt2_ok (law_h L xs hL wE4 wE4_n.1 wE_zb chkW_ok)⟩
theorem hpure (L : Nat) (xs : Nat → Int32) (hL : L ≤ 2048) : ∃ (f : Nat) (wF : av_W), arun f ML_law 0 av_l0 [] (av_w0 L xs) = some (some (.int 1), wF) ∧ wF.1 ≤ 600000 ∧ wF.2.1 ≤ 7302249 := by
  obtain ⟨w4, h0, f, r, w2, h1, h2, h3, h4⟩ := law_run L xs hL
  subst h2
  exact ⟨f, w2, h1, by rw [h3]; decide, by rw [h4]; exact h0⟩
