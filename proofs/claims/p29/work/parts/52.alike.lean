/-! the two cards are alike -/
set_option maxHeartbeats 4000000 in
theorem l_areAlikeT {sc : av_E} {w : av_W} {v p sh ln pr gd co : Int} {c s c2 s2 : Nat → Int} {len len2 : Int} {t t2 : Nat → Int} (J : JJ sc w (v, p, sh, ln, pr, gd, co, c, s) (v, p, sh, ln, pr, gd, co, c2, s2) len len2 t t2) (hc : MC v c c2) (hm : MS v p s s2) : cl ML_areAlike [.ref 0, .ref 33] w (fun r' w' => r' = some (.int (iN 1)) ∧ JM sc w') := by
  have n_ := J.1
  obtain ⟨⟨z0, f0, z0w⟩, z33, f33, z33w⟩ := J.cells
  obtain ⟨k1, k2, k3, k4, k5, k6, k7, k8⟩ := KW_p J.kv.1
  show rn ML_areAlike 0 [some (.ref 0), some (.ref 33), none, none, none] [] w (fun r' w' => r' = some (.int (iN 1)) ∧ JM sc w')
  have lp6 : ∀ (n : Nat) (a : Int) (wk : av_W) (b4 : Option Value), (0 ≤ a ∧ a ≤ v ∧ v + 1 ≤ a + n) → (JJ sc wk (v, p, sh, ln, pr, gd, co, c, s) (v, p, sh, ln, pr, gd, co, c2, s2) len len2 t t2) → rn ML_areAlike 359 [some (.ref 0), some (.ref 33), some (.int (iN 1)), some (.int (iN a)), b4] [] wk (fun r' w' => r' = some (.int (iN 1)) ∧ JM sc w') := by
    intro n
    induction n with
    | zero =>
      intro a wk b4 hk0 hk1
      exfalso
      omega
    | succ n ih =>
      intro a wk b4 hk0 hk1
      have J := hk1
      have n_ := J.1
      obtain ⟨⟨z0, f0, z0w⟩, z33, f33, z33w⟩ := J.cells
      refine r_iload_n (pc2 := 360) dL_areAlike_359 rfl rfl ?_
      refine r_aload_n (pc2 := 361) dL_areAlike_360 rfl rfl ?_
      refine r_iconst (pc2 := 362) dL_areAlike_361 rfl ?_
      refine r_callv_1 (pc2 := 365) dL_areAlike_362 rfl rs_99_9 rfl (by decide) rfl (Nat.le_of_ble_eq_true rfl) (Nat.le_of_ble_eq_true rfl) (by assumption) (by assumption) (oc0 J) (fun r_ w_ h_ => ?_)
      obtain ⟨e_, J⟩ := h_
      rw [e_]
      clear e_ r_
      have n_ := J.1
      obtain ⟨⟨z0, f0, z0w⟩, z33, f33, z33w⟩ := J.cells
      refine ⟨by omega, ?_⟩
      refine r_icmp_ge (pc2 := 368) (tgt := 420) dL_areAlike_365 rfl (by decide) (by omega) (by omega) (fun h365 => ?_) (fun h365 => ?_)
      · refine r_iload_n (pc2 := 421) dL_areAlike_420 rfl rfl ?_
        refine r_retb dL_areAlike_421 rfl (by first | exact Or.inl rfl | exact Or.inr rfl | exact bz_01) ?_
        exact ⟨rfl, _, _, _, _, _, _, J, ⟨rfl, rfl, rfl, rfl, rfl, rfl, rfl⟩, hc, hm⟩
      · have hth := th_rg (v := v) (x := a) (by omega)
        refine r_iconst (pc2 := 369) dL_areAlike_368 rfl ?_
        refine r_ist_4 (pc2 := 371) dL_areAlike_369 rfl rfl ?_
        have kont : ∀ (wz : av_W) (b4 : Option Value), JJ sc wz (v, p, sh, ln, pr, gd, co, c, s) (v, p, sh, ln, pr, gd, co, c2, s2) len len2 t t2 → rn ML_areAlike 414 [some (.ref 0), some (.ref 33), some (.int (iN 1)), some (.int (iN a)), b4] [] wz (fun r' w' => r' = some (.int (iN 1)) ∧ JM sc w') := by
          intro wz b4 J
          refine r_iinc_3 (pc2 := 417) dL_areAlike_414 rfl rfl ?_
          refine r_goto (tgt := 359) dL_areAlike_417 (by decide) ?_
          exact ih (a + 1) _ _ (by omega) J
        have in6 : ∀ (n2 : Nat) (b : Int) (wk : av_W), (0 ≤ b ∧ b ≤ 4 ∧ 5 ≤ b + n2) → (JJ sc wk (v, p, sh, ln, pr, gd, co, c, s) (v, p, sh, ln, pr, gd, co, c2, s2) len len2 t t2) → rn ML_areAlike 371 [some (.ref 0), some (.ref 33), some (.int (iN 1)), some (.int (iN a)), some (.int (iN b))] [] wk (fun r' w' => r' = some (.int (iN 1)) ∧ JM sc w') := by
          intro n2
          induction n2 with
          | zero =>
            intro b wk hj0 hj1
            exfalso
            omega
          | succ n2 ih2 =>
            intro b wk hj0 hj1
            have J := hj1
            have n_ := J.1
            obtain ⟨⟨z0, f0, z0w⟩, z33, f33, z33w⟩ := J.cells
            refine r_iload (pc2 := 373) dL_areAlike_371 rfl rfl ?_
            refine r_iconst (pc2 := 374) dL_areAlike_373 rfl ?_
            refine r_icmp_ge (pc2 := 377) (tgt := 414) dL_areAlike_374 rfl (by decide) (by omega) (by omega) (fun h374 => ?_) (fun h374 => ?_)
            · exact kont _ _ J
            · refine r_iload_n (pc2 := 378) dL_areAlike_377 rfl rfl ?_
              refine r_if_eq (pc2 := 381) (tgt := 406) dL_areAlike_378 rfl (by decide) (by omega) (fun h378 => ?_) (fun h378 => ?_)
              · exfalso
                omega
              · refine r_aload_n (pc2 := 382) dL_areAlike_381 rfl rfl ?_
                refine r_iload_n (pc2 := 383) dL_areAlike_382 rfl rfl ?_
                refine r_iload (pc2 := 385) dL_areAlike_383 rfl rfl ?_
                refine r_callv_2 (pc2 := 388) dL_areAlike_385 rfl rs_99_89 rfl (by decide) rfl (Nat.le_of_ble_eq_true rfl) (Nat.le_of_ble_eq_true rfl) (by assumption) (by assumption) (ot_view J a b (by unfold RG; omega) (by unfold RG; omega)) (fun r_ w_ h_ => ?_)
                obtain ⟨e_, J⟩ := h_
                rw [e_]
                clear e_ r_
                have n_ := J.1
                obtain ⟨⟨z0, f0, z0w⟩, z33, f33, z33w⟩ := J.cells
                refine ⟨by omega, ?_⟩
                refine r_aload_n (pc2 := 389) dL_areAlike_388 rfl rfl ?_
                refine r_aload_n (pc2 := 390) dL_areAlike_389 rfl rfl ?_
                refine r_iload_n (pc2 := 391) dL_areAlike_390 rfl rfl ?_
                refine r_calls_2 (pc2 := 394) dL_areAlike_391 rfl rs_99_18 rfl (by decide) rfl (Nat.le_of_ble_eq_true rfl) (Nat.le_of_ble_eq_true rfl) (l_thereT J a (by unfold RG; omega)) (fun r_ w_ h_ => ?_)
                obtain ⟨e_, J⟩ := h_
                rw [e_]
                clear e_ r_
                have n_ := J.1
                obtain ⟨⟨z0, f0, z0w⟩, z33, f33, z33w⟩ := J.cells
                refine ⟨by omega, ?_⟩
                refine r_iload (pc2 := 396) dL_areAlike_394 rfl rfl ?_
                refine r_callv_2 (pc2 := 399) dL_areAlike_396 rfl rs_99_89 rfl (by decide) rfl (Nat.le_of_ble_eq_true rfl) (Nat.le_of_ble_eq_true rfl) (by assumption) (by assumption) (pt_view J (thZ v a) b (by unfold RG; omega) (by unfold RG; omega)) (fun r_ w_ h_ => ?_)
                obtain ⟨e_, J⟩ := h_
                rw [e_, b_view (c := c) (c2 := c2) k1 k2 k5 hm (show 0 ≤ a ∧ a < v by omega) (show 0 ≤ b ∧ b ≤ 3 by omega)]
                clear e_ r_
                have n_ := J.1
                obtain ⟨⟨z0, f0, z0w⟩, z33, f33, z33w⟩ := J.cells
                refine ⟨by omega, ?_⟩
                refine r_same (pc2 := 402) dL_areAlike_399 rfl (by decide) ?_
                refine r_iconst (pc2 := 403) dL_areAlike_402 rfl ?_
                refine r_goto (tgt := 407) dL_areAlike_403 (by decide) ?_
                refine r_ist_2 (pc2 := 408) dL_areAlike_407 rfl rfl ?_
                refine r_iinc_4 (pc2 := 411) dL_areAlike_408 rfl rfl ?_
                refine r_goto (tgt := 371) dL_areAlike_411 (by decide) ?_
                exact ih2 (b + 1) _ (by omega) J
        exact in6 6 0 _ (by omega) J
  have lp4 : ∀ (n : Nat) (a : Int) (wk : av_W) (b4 : Option Value), (-9 ≤ a ∧ a ≤ 10 ∧ 11 ≤ a + n) → (JJ sc wk (v, p, sh, ln, pr, gd, co, c, s) (v, p, sh, ln, pr, gd, co, c2, s2) len len2 t t2) → rn ML_areAlike 150 [some (.ref 0), some (.ref 33), some (.int (iN 1)), some (.int (iN a)), b4] [] wk (fun r' w' => r' = some (.int (iN 1)) ∧ JM sc w') := by
    intro n
    induction n with
    | zero =>
      intro a wk b4 hk0 hk1
      exfalso
      omega
    | succ n ih =>
      intro a wk b4 hk0 hk1
      have J := hk1
      have n_ := J.1
      obtain ⟨⟨z0, f0, z0w⟩, z33, f33, z33w⟩ := J.cells
      refine r_iload_n (pc2 := 151) dL_areAlike_150 rfl rfl ?_
      refine r_bipush (pc2 := 153) dL_areAlike_151 rfl (by decide) ?_
      refine r_icmp_ge (pc2 := 156) (tgt := 357) dL_areAlike_153 rfl (by decide) (by omega) (by omega) (fun h153 => ?_) (fun h153 => ?_)
      · refine r_iconst (pc2 := 358) dL_areAlike_357 rfl ?_
        refine r_ist_3 (pc2 := 359) dL_areAlike_358 rfl rfl ?_
        exact lp6 (v.toNat + 1) 0 _ _ (by omega) J
      · obtain ⟨m1, m2⟩ := b_at1 (sh := sh) (ln := ln) (pr := pr) (gd := gd) (co := co) (c := c) (c2 := c2) k1 k2 k5 hm (a := a) (by omega)
        refine r_iload_n (pc2 := 157) dL_areAlike_156 rfl rfl ?_
        refine r_if_eq (pc2 := 160) (tgt := 357) dL_areAlike_157 rfl (by decide) (by omega) (fun h157 => ?_) (fun h157 => ?_)
        · exfalso
          omega
        · refine r_aload_n (pc2 := 161) dL_areAlike_160 rfl rfl ?_
          refine r_iload_n (pc2 := 162) dL_areAlike_161 rfl rfl ?_
          refine r_iconst (pc2 := 163) dL_areAlike_162 rfl ?_
          refine r_callv_2 (pc2 := 166) dL_areAlike_163 rfl rs_99_83 rfl (by decide) rfl (Nat.le_of_ble_eq_true rfl) (Nat.le_of_ble_eq_true rfl) (by assumption) (by assumption) (ot_at J a 0 (by unfold RG; omega) (by unfold RG; omega)) (fun r_ w_ h_ => ?_)
          obtain ⟨e_, J⟩ := h_
          rw [e_]
          clear e_ r_
          have n_ := J.1
          obtain ⟨⟨z0, f0, z0w⟩, z33, f33, z33w⟩ := J.cells
          refine ⟨by omega, ?_⟩
          refine r_aload_n (pc2 := 167) dL_areAlike_166 rfl rfl ?_
          refine r_iload_n (pc2 := 168) dL_areAlike_167 rfl rfl ?_
          refine r_iconst (pc2 := 169) dL_areAlike_168 rfl ?_
          refine r_callv_2 (pc2 := 172) dL_areAlike_169 rfl rs_99_83 rfl (by decide) rfl (Nat.le_of_ble_eq_true rfl) (Nat.le_of_ble_eq_true rfl) (by assumption) (by assumption) (pt_at J a 0 (by unfold RG; omega) (by unfold RG; omega)) (fun r_ w_ h_ => ?_)
          obtain ⟨e_, J⟩ := h_
          rw [e_, b_at0 (c := c) k1 k2 k5 hm (show -9 ≤ a ∧ a ≤ 9 by omega)]
          clear e_ r_
          have n_ := J.1
          obtain ⟨⟨z0, f0, z0w⟩, z33, f33, z33w⟩ := J.cells
          refine ⟨by omega, ?_⟩
          refine r_same (pc2 := 175) dL_areAlike_172 rfl (by decide) ?_
          refine r_aload_n (pc2 := 176) dL_areAlike_175 rfl rfl ?_
          refine r_aload_n (pc2 := 177) dL_areAlike_176 rfl rfl ?_
          refine r_iload_n (pc2 := 178) dL_areAlike_177 rfl rfl ?_
          refine r_iconst (pc2 := 179) dL_areAlike_178 rfl ?_
          refine r_callv_2 (pc2 := 182) dL_areAlike_179 rfl rs_99_83 rfl (by decide) rfl (Nat.le_of_ble_eq_true rfl) (Nat.le_of_ble_eq_true rfl) (by assumption) (by assumption) (ot_at J a 1 (by unfold RG; omega) (by unfold RG; omega)) (fun r_ w_ h_ => ?_)
          obtain ⟨e_, J⟩ := h_
          rw [e_]
          clear e_ r_
          have n_ := J.1
          obtain ⟨⟨z0, f0, z0w⟩, z33, f33, z33w⟩ := J.cells
          refine ⟨by omega, ?_⟩
          refine r_calls_2 (pc2 := 185) dL_areAlike_182 rfl rs_99_18 rfl (by decide) rfl (Nat.le_of_ble_eq_true rfl) (Nat.le_of_ble_eq_true rfl) (l_thereT J _ (by unfold RG; omega)) (fun r_ w_ h_ => ?_)
          obtain ⟨e_, J⟩ := h_
          rw [e_]
          clear e_ r_
          have n_ := J.1
          obtain ⟨⟨z0, f0, z0w⟩, z33, f33, z33w⟩ := J.cells
          refine ⟨by omega, ?_⟩
          refine r_aload_n (pc2 := 186) dL_areAlike_185 rfl rfl ?_
          refine r_iload_n (pc2 := 187) dL_areAlike_186 rfl rfl ?_
          refine r_iconst (pc2 := 188) dL_areAlike_187 rfl ?_
          refine r_callv_2 (pc2 := 191) dL_areAlike_188 rfl rs_99_83 rfl (by decide) rfl (Nat.le_of_ble_eq_true rfl) (Nat.le_of_ble_eq_true rfl) (by assumption) (by assumption) (pt_at J a 1 (by unfold RG; omega) (by unfold RG; omega)) (fun r_ w_ h_ => ?_)
          obtain ⟨e_, J⟩ := h_
          rw [e_, m1]
          clear e_ r_
          have n_ := J.1
          obtain ⟨⟨z0, f0, z0w⟩, z33, f33, z33w⟩ := J.cells
          refine ⟨by omega, ?_⟩
          refine r_same (pc2 := 194) dL_areAlike_191 rfl (by decide) ?_
          refine r_aload_n (pc2 := 195) dL_areAlike_194 rfl rfl ?_
          refine r_iload_n (pc2 := 196) dL_areAlike_195 rfl rfl ?_
          refine r_iconst (pc2 := 197) dL_areAlike_196 rfl ?_
          refine r_callv_2 (pc2 := 200) dL_areAlike_197 rfl rs_99_83 rfl (by decide) rfl (Nat.le_of_ble_eq_true rfl) (Nat.le_of_ble_eq_true rfl) (by assumption) (by assumption) (ot_at J a 3 (by unfold RG; omega) (by unfold RG; omega)) (fun r_ w_ h_ => ?_)
          obtain ⟨e_, J⟩ := h_
          rw [e_]
          clear e_ r_
          have n_ := J.1
          obtain ⟨⟨z0, f0, z0w⟩, z33, f33, z33w⟩ := J.cells
          refine ⟨by omega, ?_⟩
          refine r_aload_n (pc2 := 201) dL_areAlike_200 rfl rfl ?_
          refine r_iload_n (pc2 := 202) dL_areAlike_201 rfl rfl ?_
          refine r_iconst (pc2 := 203) dL_areAlike_202 rfl ?_
          refine r_callv_2 (pc2 := 206) dL_areAlike_203 rfl rs_99_83 rfl (by decide) rfl (Nat.le_of_ble_eq_true rfl) (Nat.le_of_ble_eq_true rfl) (by assumption) (by assumption) (pt_at J a 3 (by unfold RG; omega) (by unfold RG; omega)) (fun r_ w_ h_ => ?_)
          obtain ⟨e_, J⟩ := h_
          rw [e_, b_at3 (c := c) k1 k2 k5 hm (show -9 ≤ a ∧ a ≤ 9 by omega)]
          clear e_ r_
          have n_ := J.1
          obtain ⟨⟨z0, f0, z0w⟩, z33, f33, z33w⟩ := J.cells
          refine ⟨by omega, ?_⟩
          refine r_same (pc2 := 209) dL_areAlike_206 rfl (by decide) ?_
          refine r_aload_n (pc2 := 210) dL_areAlike_209 rfl rfl ?_
          refine r_iload_n (pc2 := 211) dL_areAlike_210 rfl rfl ?_
          refine r_iconst (pc2 := 212) dL_areAlike_211 rfl ?_
          refine r_callv_2 (pc2 := 215) dL_areAlike_212 rfl rs_99_83 rfl (by decide) rfl (Nat.le_of_ble_eq_true rfl) (Nat.le_of_ble_eq_true rfl) (by assumption) (by assumption) (ot_at J a 4 (by unfold RG; omega) (by unfold RG; omega)) (fun r_ w_ h_ => ?_)
          obtain ⟨e_, J⟩ := h_
          rw [e_]
          clear e_ r_
          have n_ := J.1
          obtain ⟨⟨z0, f0, z0w⟩, z33, f33, z33w⟩ := J.cells
          refine ⟨by omega, ?_⟩
          refine r_aload_n (pc2 := 216) dL_areAlike_215 rfl rfl ?_
          refine r_iload_n (pc2 := 217) dL_areAlike_216 rfl rfl ?_
          refine r_iconst (pc2 := 218) dL_areAlike_217 rfl ?_
          refine r_callv_2 (pc2 := 221) dL_areAlike_218 rfl rs_99_83 rfl (by decide) rfl (Nat.le_of_ble_eq_true rfl) (Nat.le_of_ble_eq_true rfl) (by assumption) (by assumption) (pt_at J a 4 (by unfold RG; omega) (by unfold RG; omega)) (fun r_ w_ h_ => ?_)
          obtain ⟨e_, J⟩ := h_
          rw [e_, b_at4 (c := c) k1 k2 k5 hm (show -9 ≤ a ∧ a ≤ 9 by omega)]
          clear e_ r_
          have n_ := J.1
          obtain ⟨⟨z0, f0, z0w⟩, z33, f33, z33w⟩ := J.cells
          refine ⟨by omega, ?_⟩
          refine r_same (pc2 := 224) dL_areAlike_221 rfl (by decide) ?_
          refine r_iconst (pc2 := 225) dL_areAlike_224 rfl ?_
          refine r_goto (tgt := 229) dL_areAlike_225 (by decide) ?_
          refine r_ist_2 (pc2 := 230) dL_areAlike_229 rfl rfl ?_
          refine r_iconst (pc2 := 231) dL_areAlike_230 rfl ?_
          refine r_ist_4 (pc2 := 233) dL_areAlike_231 rfl rfl ?_
          have kont : ∀ (wz : av_W) (b4 : Option Value), JJ sc wz (v, p, sh, ln, pr, gd, co, c, s) (v, p, sh, ln, pr, gd, co, c2, s2) len len2 t t2 → rn ML_areAlike 351 [some (.ref 0), some (.ref 33), some (.int (iN 1)), some (.int (iN a)), b4] [] wz (fun r' w' => r' = some (.int (iN 1)) ∧ JM sc w') := by
            intro wz b4 J
            refine r_iinc_3 (pc2 := 354) dL_areAlike_351 rfl rfl ?_
            refine r_goto (tgt := 150) dL_areAlike_354 (by decide) ?_
            exact ih (a + 1) _ _ (by omega) J
          have in5 : ∀ (n2 : Nat) (b : Int) (wk : av_W), (0 ≤ b ∧ b ≤ 14 ∧ 15 ≤ b + n2) → (JJ sc wk (v, p, sh, ln, pr, gd, co, c, s) (v, p, sh, ln, pr, gd, co, c2, s2) len len2 t t2) → rn ML_areAlike 233 [some (.ref 0), some (.ref 33), some (.int (iN 1)), some (.int (iN a)), some (.int (iN b))] [] wk (fun r' w' => r' = some (.int (iN 1)) ∧ JM sc w') := by
            intro n2
            induction n2 with
            | zero =>
              intro b wk hj0 hj1
              exfalso
              omega
            | succ n2 ih2 =>
              intro b wk hj0 hj1
              have J := hj1
              have n_ := J.1
              obtain ⟨⟨z0, f0, z0w⟩, z33, f33, z33w⟩ := J.cells
              refine r_iload (pc2 := 235) dL_areAlike_233 rfl rfl ?_
              refine r_bipush (pc2 := 237) dL_areAlike_235 rfl (by decide) ?_
              refine r_icmp_ge (pc2 := 240) (tgt := 351) dL_areAlike_237 rfl (by decide) (by omega) (by omega) (fun h237 => ?_) (fun h237 => ?_)
              · exact kont _ _ J
              · obtain ⟨m1, m2⟩ := b_seen0 (sh := sh) (ln := ln) (pr := pr) (gd := gd) (co := co) (c := c) (c2 := c2) k1 k2 k5 hm (a := a) (b := b) (by omega) (by omega)
                obtain ⟨m3, m4⟩ := b_seen1 (sh := sh) (ln := ln) (pr := pr) (gd := gd) (co := co) k1 k2 k5 k6 hc hm (a := a) (b := b) (by omega) (by omega)
                refine r_iload_n (pc2 := 241) dL_areAlike_240 rfl rfl ?_
                refine r_if_eq (pc2 := 244) (tgt := 331) dL_areAlike_241 rfl (by decide) (by omega) (fun h241 => ?_) (fun h241 => ?_)
                · exfalso
                  omega
                · refine r_aload_n (pc2 := 245) dL_areAlike_244 rfl rfl ?_
                  refine r_aload_n (pc2 := 246) dL_areAlike_245 rfl rfl ?_
                  refine r_iload_n (pc2 := 247) dL_areAlike_246 rfl rfl ?_
                  refine r_iload (pc2 := 249) dL_areAlike_247 rfl rfl ?_
                  refine r_iconst (pc2 := 250) dL_areAlike_249 rfl ?_
                  refine r_callv_3 (pc2 := 253) dL_areAlike_250 rfl rs_99_86 rfl (by decide) rfl (Nat.le_of_ble_eq_true rfl) (Nat.le_of_ble_eq_true rfl) (by assumption) (by assumption) (ot_seen J a b 0 (by unfold RG; omega) (by unfold RG; omega) (by unfold RG; omega)) (fun r_ w_ h_ => ?_)
                  obtain ⟨e_, J⟩ := h_
                  rw [e_]
                  clear e_ r_
                  have n_ := J.1
                  obtain ⟨⟨z0, f0, z0w⟩, z33, f33, z33w⟩ := J.cells
                  refine ⟨by omega, ?_⟩
                  refine r_calls_2 (pc2 := 256) dL_areAlike_253 rfl rs_99_18 rfl (by decide) rfl (Nat.le_of_ble_eq_true rfl) (Nat.le_of_ble_eq_true rfl) (l_thereT J _ (by unfold RG; omega)) (fun r_ w_ h_ => ?_)
                  obtain ⟨e_, J⟩ := h_
                  rw [e_]
                  clear e_ r_
                  have n_ := J.1
                  obtain ⟨⟨z0, f0, z0w⟩, z33, f33, z33w⟩ := J.cells
                  refine ⟨by omega, ?_⟩
                  refine r_aload_n (pc2 := 257) dL_areAlike_256 rfl rfl ?_
                  refine r_iload_n (pc2 := 258) dL_areAlike_257 rfl rfl ?_
                  refine r_iload (pc2 := 260) dL_areAlike_258 rfl rfl ?_
                  refine r_iconst (pc2 := 261) dL_areAlike_260 rfl ?_
                  refine r_callv_3 (pc2 := 264) dL_areAlike_261 rfl rs_99_86 rfl (by decide) rfl (Nat.le_of_ble_eq_true rfl) (Nat.le_of_ble_eq_true rfl) (by assumption) (by assumption) (pt_seen J a b 0 (by unfold RG; omega) (by unfold RG; omega) (by unfold RG; omega)) (fun r_ w_ h_ => ?_)
                  obtain ⟨e_, J⟩ := h_
                  rw [e_, m1]
                  clear e_ r_
                  have n_ := J.1
                  obtain ⟨⟨z0, f0, z0w⟩, z33, f33, z33w⟩ := J.cells
                  refine ⟨by omega, ?_⟩
                  refine r_same (pc2 := 267) dL_areAlike_264 rfl (by decide) ?_
                  refine r_aload_n (pc2 := 268) dL_areAlike_267 rfl rfl ?_
                  refine r_iload_n (pc2 := 269) dL_areAlike_268 rfl rfl ?_
                  refine r_iload (pc2 := 271) dL_areAlike_269 rfl rfl ?_
                  refine r_iconst (pc2 := 272) dL_areAlike_271 rfl ?_
                  refine r_callv_3 (pc2 := 275) dL_areAlike_272 rfl rs_99_86 rfl (by decide) rfl (Nat.le_of_ble_eq_true rfl) (Nat.le_of_ble_eq_true rfl) (by assumption) (by assumption) (ot_seen J a b 1 (by unfold RG; omega) (by unfold RG; omega) (by unfold RG; omega)) (fun r_ w_ h_ => ?_)
                  obtain ⟨e_, J⟩ := h_
                  rw [e_]
                  clear e_ r_
                  have n_ := J.1
                  obtain ⟨⟨z0, f0, z0w⟩, z33, f33, z33w⟩ := J.cells
                  refine ⟨by omega, ?_⟩
                  refine r_calls_1 (pc2 := 278) dL_areAlike_275 rfl rs_99_49 rfl (by decide) rfl (Nat.le_of_ble_eq_true rfl) (Nat.le_of_ble_eq_true rfl) (l_colour _ _ (by unfold RG; omega)) (fun r_ w_ h_ => ?_)
                  rw [h_.1, h_.2]
                  clear h_ w_ r_
                  refine ⟨rfl, ?_⟩
                  refine r_aload_n (pc2 := 279) dL_areAlike_278 rfl rfl ?_
                  refine r_iload_n (pc2 := 280) dL_areAlike_279 rfl rfl ?_
                  refine r_iload (pc2 := 282) dL_areAlike_280 rfl rfl ?_
                  refine r_iconst (pc2 := 283) dL_areAlike_282 rfl ?_
                  refine r_callv_3 (pc2 := 286) dL_areAlike_283 rfl rs_99_86 rfl (by decide) rfl (Nat.le_of_ble_eq_true rfl) (Nat.le_of_ble_eq_true rfl) (by assumption) (by assumption) (pt_seen J a b 1 (by unfold RG; omega) (by unfold RG; omega) (by unfold RG; omega)) (fun r_ w_ h_ => ?_)
                  obtain ⟨e_, J⟩ := h_
                  rw [e_, m3]
                  clear e_ r_
                  have n_ := J.1
                  obtain ⟨⟨z0, f0, z0w⟩, z33, f33, z33w⟩ := J.cells
                  refine ⟨by omega, ?_⟩
                  refine r_same (pc2 := 289) dL_areAlike_286 rfl (by decide) ?_
                  refine r_aload_n (pc2 := 290) dL_areAlike_289 rfl rfl ?_
                  refine r_iload_n (pc2 := 291) dL_areAlike_290 rfl rfl ?_
                  refine r_iload (pc2 := 293) dL_areAlike_291 rfl rfl ?_
                  refine r_iconst (pc2 := 294) dL_areAlike_293 rfl ?_
                  refine r_callv_3 (pc2 := 297) dL_areAlike_294 rfl rs_99_86 rfl (by decide) rfl (Nat.le_of_ble_eq_true rfl) (Nat.le_of_ble_eq_true rfl) (by assumption) (by assumption) (ot_seen J a b 2 (by unfold RG; omega) (by unfold RG; omega) (by unfold RG; omega)) (fun r_ w_ h_ => ?_)
                  obtain ⟨e_, J⟩ := h_
                  rw [e_]
                  clear e_ r_
                  have n_ := J.1
                  obtain ⟨⟨z0, f0, z0w⟩, z33, f33, z33w⟩ := J.cells
                  refine ⟨by omega, ?_⟩
                  refine r_aload_n (pc2 := 298) dL_areAlike_297 rfl rfl ?_
                  refine r_iload_n (pc2 := 299) dL_areAlike_298 rfl rfl ?_
                  refine r_iload (pc2 := 301) dL_areAlike_299 rfl rfl ?_
                  refine r_iconst (pc2 := 302) dL_areAlike_301 rfl ?_
                  refine r_callv_3 (pc2 := 305) dL_areAlike_302 rfl rs_99_86 rfl (by decide) rfl (Nat.le_of_ble_eq_true rfl) (Nat.le_of_ble_eq_true rfl) (by assumption) (by assumption) (pt_seen J a b 2 (by unfold RG; omega) (by unfold RG; omega) (by unfold RG; omega)) (fun r_ w_ h_ => ?_)
                  obtain ⟨e_, J⟩ := h_
                  rw [e_, b_seen2 (s2 := s2) (c2 := c2) (c := c) (s := s) (show -9 ≤ a ∧ a ≤ 9 by omega) (show 0 ≤ b ∧ b ≤ 11 by omega)]
                  clear e_ r_
                  have n_ := J.1
                  obtain ⟨⟨z0, f0, z0w⟩, z33, f33, z33w⟩ := J.cells
                  refine ⟨by omega, ?_⟩
                  refine r_same (pc2 := 308) dL_areAlike_305 rfl (by decide) ?_
                  refine r_aload_n (pc2 := 309) dL_areAlike_308 rfl rfl ?_
                  refine r_iload_n (pc2 := 310) dL_areAlike_309 rfl rfl ?_
                  refine r_iload (pc2 := 312) dL_areAlike_310 rfl rfl ?_
                  refine r_iconst (pc2 := 313) dL_areAlike_312 rfl ?_
                  refine r_callv_3 (pc2 := 316) dL_areAlike_313 rfl rs_99_86 rfl (by decide) rfl (Nat.le_of_ble_eq_true rfl) (Nat.le_of_ble_eq_true rfl) (by assumption) (by assumption) (ot_seen J a b 3 (by unfold RG; omega) (by unfold RG; omega) (by unfold RG; omega)) (fun r_ w_ h_ => ?_)
                  obtain ⟨e_, J⟩ := h_
                  rw [e_]
                  clear e_ r_
                  have n_ := J.1
                  obtain ⟨⟨z0, f0, z0w⟩, z33, f33, z33w⟩ := J.cells
                  refine ⟨by omega, ?_⟩
                  refine r_aload_n (pc2 := 317) dL_areAlike_316 rfl rfl ?_
                  refine r_iload_n (pc2 := 318) dL_areAlike_317 rfl rfl ?_
                  refine r_iload (pc2 := 320) dL_areAlike_318 rfl rfl ?_
                  refine r_iconst (pc2 := 321) dL_areAlike_320 rfl ?_
                  refine r_callv_3 (pc2 := 324) dL_areAlike_321 rfl rs_99_86 rfl (by decide) rfl (Nat.le_of_ble_eq_true rfl) (Nat.le_of_ble_eq_true rfl) (by assumption) (by assumption) (pt_seen J a b 3 (by unfold RG; omega) (by unfold RG; omega) (by unfold RG; omega)) (fun r_ w_ h_ => ?_)
                  obtain ⟨e_, J⟩ := h_
                  rw [e_, b_seen3 (c2 := c2) (c := c) k1 k2 k5 hm (show -9 ≤ a ∧ a ≤ 9 by omega) (show 0 ≤ b ∧ b ≤ 11 by omega)]
                  clear e_ r_
                  have n_ := J.1
                  obtain ⟨⟨z0, f0, z0w⟩, z33, f33, z33w⟩ := J.cells
                  refine ⟨by omega, ?_⟩
                  refine r_same (pc2 := 327) dL_areAlike_324 rfl (by decide) ?_
                  refine r_iconst (pc2 := 328) dL_areAlike_327 rfl ?_
                  refine r_goto (tgt := 332) dL_areAlike_328 (by decide) ?_
                  refine r_ist_2 (pc2 := 333) dL_areAlike_332 rfl rfl ?_
                  refine r_iload (pc2 := 335) dL_areAlike_333 rfl rfl ?_
                  refine r_iconst (pc2 := 336) dL_areAlike_335 rfl ?_
                  refine r_iload_n (pc2 := 337) dL_areAlike_336 rfl rfl ?_
                  refine r_bipush (pc2 := 339) dL_areAlike_337 rfl (by decide) ?_
                  refine r_iadd (pc2 := 340) dL_areAlike_339 rfl ?_
                  refine r_iconst (pc2 := 341) dL_areAlike_340 rfl ?_
                  refine r_calls_2 (pc2 := 344) dL_areAlike_341 rfl rs_99_28 rfl (by decide) rfl (Nat.le_of_ble_eq_true rfl) (Nat.le_of_ble_eq_true rfl) (l_up _ _ _ (by omega)) (fun r_ w_ h_ => ?_)
                  rw [h_.1, h_.2]
                  clear h_ w_ r_
                  refine ⟨rfl, ?_⟩
                  have hu := up_rg (x := a + 9) (n := 3) (by omega)
                  refine r_iadd (pc2 := 345) dL_areAlike_344 rfl ?_
                  refine r_iadd (pc2 := 346) dL_areAlike_345 rfl ?_
                  refine r_ist_4 (pc2 := 348) dL_areAlike_346 rfl rfl ?_
                  refine r_goto (tgt := 233) dL_areAlike_348 (by decide) ?_
                  exact ih2 (b + (1 + upZ (a + 9) 3)) _ (by omega) J
          exact in5 16 0 _ (by omega) J
  have lp3 : ∀ (n : Nat) (k : Int) (wk : av_W) (b4 : Option Value), (0 ≤ k ∧ k ≤ 12 * v ∧ 12 * v + 1 ≤ k + n) → (JJ sc wk (v, p, sh, ln, pr, gd, co, c, s) (v, p, sh, ln, pr, gd, co, c2, s2) len len2 t t2) → rn ML_areAlike 85 [some (.ref 0), some (.ref 33), some (.int (iN 1)), some (.int (iN k)), b4] [] wk (fun r' w' => r' = some (.int (iN 1)) ∧ JM sc w') := by
    intro n
    induction n with
    | zero =>
      intro k wk b4 hk0 hk1
      exfalso
      omega
    | succ n ih =>
      intro k wk b4 hk0 hk1
      have J := hk1
      have n_ := J.1
      obtain ⟨⟨z0, f0, z0w⟩, z33, f33, z33w⟩ := J.cells
      refine r_iload_n (pc2 := 86) dL_areAlike_85 rfl rfl ?_
      refine r_bipush (pc2 := 88) dL_areAlike_86 rfl (by decide) ?_
      refine r_aload_n (pc2 := 89) dL_areAlike_88 rfl rfl ?_
      refine r_iconst (pc2 := 90) dL_areAlike_89 rfl ?_
      refine r_callv_1 (pc2 := 93) dL_areAlike_90 rfl rs_99_9 rfl (by decide) rfl (Nat.le_of_ble_eq_true rfl) (Nat.le_of_ble_eq_true rfl) (by assumption) (by assumption) (oc0 J) (fun r_ w_ h_ => ?_)
      obtain ⟨e_, J⟩ := h_
      rw [e_]
      clear e_ r_
      have n_ := J.1
      obtain ⟨⟨z0, f0, z0w⟩, z33, f33, z33w⟩ := J.cells
      refine ⟨by omega, ?_⟩
      refine r_imul (pc2 := 94) dL_areAlike_93 rfl ?_
      refine r_icmp_ge (pc2 := 97) (tgt := 147) dL_areAlike_94 rfl (by decide) (by omega) (by omega) (fun h94 => ?_) (fun h94 => ?_)
      · refine r_bipush (pc2 := 149) dL_areAlike_147 rfl (by decide) ?_
        refine r_ist_3 (pc2 := 150) dL_areAlike_149 rfl rfl ?_
        exact lp4 20 (-9) _ _ (by omega) J
      · obtain ⟨m1, m2⟩ := b_colourOf (p := p) (sh := sh) (ln := ln) (pr := pr) (gd := gd) (co := co) (s := s) (s2 := s2) k1 k6 hc (a := k / 12) (b := k % 12) (by omega) (by omega)
        have hth := th_rg (v := v) (x := k / 12) (by omega)
        refine r_iload_n (pc2 := 98) dL_areAlike_97 rfl rfl ?_
        refine r_if_eq (pc2 := 101) (tgt := 139) dL_areAlike_98 rfl (by decide) (by omega) (fun h98 => ?_) (fun h98 => ?_)
        · exfalso
          omega
        · refine r_aload_n (pc2 := 102) dL_areAlike_101 rfl rfl ?_
          refine r_iload_n (pc2 := 103) dL_areAlike_102 rfl rfl ?_
          refine r_bipush (pc2 := 105) dL_areAlike_103 rfl (by decide) ?_
          refine r_idiv (pc2 := 106) dL_areAlike_105 rfl (by omega) (by omega) (by omega) (by omega) ?_
          refine r_iload_n (pc2 := 107) dL_areAlike_106 rfl rfl ?_
          refine r_bipush (pc2 := 109) dL_areAlike_107 rfl (by decide) ?_
          refine r_irem (pc2 := 110) dL_areAlike_109 rfl (by omega) (by omega) (by omega) (by omega) ?_
          rw [Int.tdiv_eq_ediv_of_nonneg (show 0 ≤ k by omega)]
          rw [Int.tmod_eq_emod_of_nonneg (show 0 ≤ k by omega)]
          refine r_callv_2 (pc2 := 113) dL_areAlike_110 rfl rs_99_42 rfl (by decide) rfl (Nat.le_of_ble_eq_true rfl) (Nat.le_of_ble_eq_true rfl) (by assumption) (by assumption) (ot_colourOf J (k / 12) (k % 12) (by unfold RG; omega) (by unfold RG; omega)) (fun r_ w_ h_ => ?_)
          obtain ⟨e_, J⟩ := h_
          rw [e_]
          clear e_ r_
          have n_ := J.1
          obtain ⟨⟨z0, f0, z0w⟩, z33, f33, z33w⟩ := J.cells
          refine ⟨by omega, ?_⟩
          refine r_calls_1 (pc2 := 116) dL_areAlike_113 rfl rs_99_49 rfl (by decide) rfl (Nat.le_of_ble_eq_true rfl) (Nat.le_of_ble_eq_true rfl) (l_colour _ _ (by unfold RG; omega)) (fun r_ w_ h_ => ?_)
          rw [h_.1, h_.2]
          clear h_ w_ r_
          refine ⟨rfl, ?_⟩
          refine r_aload_n (pc2 := 117) dL_areAlike_116 rfl rfl ?_
          refine r_aload_n (pc2 := 118) dL_areAlike_117 rfl rfl ?_
          refine r_iload_n (pc2 := 119) dL_areAlike_118 rfl rfl ?_
          refine r_bipush (pc2 := 121) dL_areAlike_119 rfl (by decide) ?_
          refine r_idiv (pc2 := 122) dL_areAlike_121 rfl (by omega) (by omega) (by omega) (by omega) ?_
          rw [Int.tdiv_eq_ediv_of_nonneg (show 0 ≤ k by omega)]
          refine r_calls_2 (pc2 := 125) dL_areAlike_122 rfl rs_99_18 rfl (by decide) rfl (Nat.le_of_ble_eq_true rfl) (Nat.le_of_ble_eq_true rfl) (l_thereT J (k / 12) (by unfold RG; omega)) (fun r_ w_ h_ => ?_)
          obtain ⟨e_, J⟩ := h_
          rw [e_]
          clear e_ r_
          have n_ := J.1
          obtain ⟨⟨z0, f0, z0w⟩, z33, f33, z33w⟩ := J.cells
          refine ⟨by omega, ?_⟩
          refine r_iload_n (pc2 := 126) dL_areAlike_125 rfl rfl ?_
          refine r_bipush (pc2 := 128) dL_areAlike_126 rfl (by decide) ?_
          refine r_irem (pc2 := 129) dL_areAlike_128 rfl (by omega) (by omega) (by omega) (by omega) ?_
          rw [Int.tmod_eq_emod_of_nonneg (show 0 ≤ k by omega)]
          refine r_callv_2 (pc2 := 132) dL_areAlike_129 rfl rs_99_42 rfl (by decide) rfl (Nat.le_of_ble_eq_true rfl) (Nat.le_of_ble_eq_true rfl) (by assumption) (by assumption) (pt_colourOf J (thZ v (k / 12)) (k % 12) (by unfold RG; omega) (by unfold RG; omega)) (fun r_ w_ h_ => ?_)
          obtain ⟨e_, J⟩ := h_
          rw [e_, m1]
          clear e_ r_
          have n_ := J.1
          obtain ⟨⟨z0, f0, z0w⟩, z33, f33, z33w⟩ := J.cells
          refine ⟨by omega, ?_⟩
          refine r_same (pc2 := 135) dL_areAlike_132 rfl (by decide) ?_
          refine r_iconst (pc2 := 136) dL_areAlike_135 rfl ?_
          refine r_goto (tgt := 140) dL_areAlike_136 (by decide) ?_
          refine r_ist_2 (pc2 := 141) dL_areAlike_140 rfl rfl ?_
          refine r_iinc_3 (pc2 := 144) dL_areAlike_141 rfl rfl ?_
          refine r_goto (tgt := 85) dL_areAlike_144 (by decide) ?_
          exact ih (k + 1) _ _ (by omega) J
  have lp2 : ∀ (n : Nat) (k : Int) (wk : av_W) (b4 : Option Value), (0 ≤ k ∧ k ≤ p ∧ p + 1 ≤ k + n) → (JJ sc wk (v, p, sh, ln, pr, gd, co, c, s) (v, p, sh, ln, pr, gd, co, c2, s2) len len2 t t2) → rn ML_areAlike 41 [some (.ref 0), some (.ref 33), some (.int (iN 1)), some (.int (iN k)), b4] [] wk (fun r' w' => r' = some (.int (iN 1)) ∧ JM sc w') := by
    intro n
    induction n with
    | zero =>
      intro k wk b4 hk0 hk1
      exfalso
      omega
    | succ n ih =>
      intro k wk b4 hk0 hk1
      have J := hk1
      have n_ := J.1
      obtain ⟨⟨z0, f0, z0w⟩, z33, f33, z33w⟩ := J.cells
      refine r_iload_n (pc2 := 42) dL_areAlike_41 rfl rfl ?_
      refine r_aload_n (pc2 := 43) dL_areAlike_42 rfl rfl ?_
      refine r_iconst (pc2 := 44) dL_areAlike_43 rfl ?_
      refine r_callv_1 (pc2 := 47) dL_areAlike_44 rfl rs_99_9 rfl (by decide) rfl (Nat.le_of_ble_eq_true rfl) (Nat.le_of_ble_eq_true rfl) (by assumption) (by assumption) (oc1 J) (fun r_ w_ h_ => ?_)
      obtain ⟨e_, J⟩ := h_
      rw [e_]
      clear e_ r_
      have n_ := J.1
      obtain ⟨⟨z0, f0, z0w⟩, z33, f33, z33w⟩ := J.cells
      refine ⟨by omega, ?_⟩
      refine r_icmp_ge (pc2 := 50) (tgt := 83) dL_areAlike_47 rfl (by decide) (by omega) (by omega) (fun h47 => ?_) (fun h47 => ?_)
      · refine r_iconst (pc2 := 84) dL_areAlike_83 rfl ?_
        refine r_ist_3 (pc2 := 85) dL_areAlike_84 rfl rfl ?_
        exact lp3 ((12 * v).toNat + 1) 0 _ _ (by omega) J
      · obtain ⟨m1, m2⟩ := b_viewOf (sh := sh) (ln := ln) (pr := pr) (gd := gd) (co := co) (c := c) (c2 := c2) k1 k2 k5 hm (show 0 ≤ k ∧ k < p by omega)
        refine r_iload_n (pc2 := 51) dL_areAlike_50 rfl rfl ?_
        refine r_if_eq (pc2 := 54) (tgt := 75) dL_areAlike_51 rfl (by decide) (by omega) (fun h51 => ?_) (fun h51 => ?_)
        · exfalso
          omega
        · refine r_aload_n (pc2 := 55) dL_areAlike_54 rfl rfl ?_
          refine r_aload_n (pc2 := 56) dL_areAlike_55 rfl rfl ?_
          refine r_iload_n (pc2 := 57) dL_areAlike_56 rfl rfl ?_
          refine r_callv_1 (pc2 := 60) dL_areAlike_57 rfl rs_99_15 rfl (by decide) rfl (Nat.le_of_ble_eq_true rfl) (Nat.le_of_ble_eq_true rfl) (by assumption) (by assumption) (ot_viewOf J k (by unfold RG; omega)) (fun r_ w_ h_ => ?_)
          obtain ⟨e_, J⟩ := h_
          rw [e_]
          clear e_ r_
          have n_ := J.1
          obtain ⟨⟨z0, f0, z0w⟩, z33, f33, z33w⟩ := J.cells
          refine ⟨by omega, ?_⟩
          refine r_calls_2 (pc2 := 63) dL_areAlike_60 rfl rs_99_18 rfl (by decide) rfl (Nat.le_of_ble_eq_true rfl) (Nat.le_of_ble_eq_true rfl) (l_thereT J _ (by unfold RG; omega)) (fun r_ w_ h_ => ?_)
          obtain ⟨e_, J⟩ := h_
          rw [e_]
          clear e_ r_
          have n_ := J.1
          obtain ⟨⟨z0, f0, z0w⟩, z33, f33, z33w⟩ := J.cells
          refine ⟨by omega, ?_⟩
          refine r_aload_n (pc2 := 64) dL_areAlike_63 rfl rfl ?_
          refine r_iload_n (pc2 := 65) dL_areAlike_64 rfl rfl ?_
          refine r_callv_1 (pc2 := 68) dL_areAlike_65 rfl rs_99_15 rfl (by decide) rfl (Nat.le_of_ble_eq_true rfl) (Nat.le_of_ble_eq_true rfl) (by assumption) (by assumption) (pt_viewOf J k (by unfold RG; omega)) (fun r_ w_ h_ => ?_)
          obtain ⟨e_, J⟩ := h_
          rw [e_, m1]
          clear e_ r_
          have n_ := J.1
          obtain ⟨⟨z0, f0, z0w⟩, z33, f33, z33w⟩ := J.cells
          refine ⟨by omega, ?_⟩
          refine r_same (pc2 := 71) dL_areAlike_68 rfl (by decide) ?_
          refine r_iconst (pc2 := 72) dL_areAlike_71 rfl ?_
          refine r_goto (tgt := 76) dL_areAlike_72 (by decide) ?_
          refine r_ist_2 (pc2 := 77) dL_areAlike_76 rfl rfl ?_
          refine r_iinc_3 (pc2 := 80) dL_areAlike_77 rfl rfl ?_
          refine r_goto (tgt := 41) dL_areAlike_80 (by decide) ?_
          exact ih (k + 1) _ _ (by omega) J
  have lp1 : ∀ (n : Nat) (k : Int) (wk : av_W) (b4 : Option Value), (0 ≤ k ∧ k ≤ 11 ∧ 12 ≤ k + n) → (JJ sc wk (v, p, sh, ln, pr, gd, co, c, s) (v, p, sh, ln, pr, gd, co, c2, s2) len len2 t t2) → rn ML_areAlike 4 [some (.ref 0), some (.ref 33), some (.int (iN 1)), some (.int (iN k)), b4] [] wk (fun r' w' => r' = some (.int (iN 1)) ∧ JM sc w') := by
    intro n
    induction n with
    | zero =>
      intro k wk b4 hk0 hk1
      exfalso
      omega
    | succ n ih =>
      intro k wk b4 hk0 hk1
      have J := hk1
      have n_ := J.1
      obtain ⟨⟨z0, f0, z0w⟩, z33, f33, z33w⟩ := J.cells
      refine r_iload_n (pc2 := 5) dL_areAlike_4 rfl rfl ?_
      refine r_bipush (pc2 := 7) dL_areAlike_5 rfl (by decide) ?_
      refine r_icmp_ge (pc2 := 10) (tgt := 39) dL_areAlike_7 rfl (by decide) (by omega) (by omega) (fun h7 => ?_) (fun h7 => ?_)
      · refine r_iconst (pc2 := 40) dL_areAlike_39 rfl ?_
        refine r_ist_3 (pc2 := 41) dL_areAlike_40 rfl rfl ?_
        exact lp2 (p.toNat + 1) 0 _ _ (by omega) J
      · refine r_iload_n (pc2 := 11) dL_areAlike_10 rfl rfl ?_
        refine r_if_eq (pc2 := 14) (tgt := 31) dL_areAlike_11 rfl (by decide) (by omega) (fun h11 => ?_) (fun h11 => ?_)
        · exfalso
          omega
        · refine r_aload_n (pc2 := 15) dL_areAlike_14 rfl rfl ?_
          refine r_iload_n (pc2 := 16) dL_areAlike_15 rfl rfl ?_
          refine r_callv_1 (pc2 := 19) dL_areAlike_16 rfl rs_99_9 rfl (by decide) rfl (Nat.le_of_ble_eq_true rfl) (Nat.le_of_ble_eq_true rfl) (by assumption) (by assumption) (ot_count J k (by omega)) (fun r_ w_ h_ => ?_)
          obtain ⟨e_, J⟩ := h_
          rw [e_]
          clear e_ r_
          have n_ := J.1
          obtain ⟨⟨z0, f0, z0w⟩, z33, f33, z33w⟩ := J.cells
          refine ⟨by omega, ?_⟩
          refine r_aload_n (pc2 := 20) dL_areAlike_19 rfl rfl ?_
          refine r_iload_n (pc2 := 21) dL_areAlike_20 rfl rfl ?_
          refine r_callv_1 (pc2 := 24) dL_areAlike_21 rfl rs_99_9 rfl (by decide) rfl (Nat.le_of_ble_eq_true rfl) (Nat.le_of_ble_eq_true rfl) (by assumption) (by assumption) (pt_count J k (by omega)) (fun r_ w_ h_ => ?_)
          obtain ⟨e_, J⟩ := h_
          rw [e_, b_count (c := c) (c2 := c2) k1 k2 k5 hm (show 0 ≤ k ∧ k ≤ 10 by omega)]
          clear e_ r_
          have n_ := J.1
          obtain ⟨⟨z0, f0, z0w⟩, z33, f33, z33w⟩ := J.cells
          refine ⟨by omega, ?_⟩
          refine r_same (pc2 := 27) dL_areAlike_24 rfl (by decide) ?_
          refine r_iconst (pc2 := 28) dL_areAlike_27 rfl ?_
          refine r_goto (tgt := 32) dL_areAlike_28 (by decide) ?_
          refine r_ist_2 (pc2 := 33) dL_areAlike_32 rfl rfl ?_
          refine r_iinc_3 (pc2 := 36) dL_areAlike_33 rfl rfl ?_
          refine r_goto (tgt := 4) dL_areAlike_36 (by decide) ?_
          exact ih (k + 1) _ _ (by omega) J
  refine r_iconst (pc2 := 1) dL_areAlike_0 rfl ?_
  refine r_ist_2 (pc2 := 2) dL_areAlike_1 rfl rfl ?_
  refine r_iconst (pc2 := 3) dL_areAlike_2 rfl ?_
  refine r_ist_3 (pc2 := 4) dL_areAlike_3 rfl rfl ?_
  exact lp1 12 0 _ _ (by omega) J

theorem l_areAlike {sc : av_E} {w : av_W} (h : JM sc w) : cl ML_areAlike [.ref 0, .ref 33] w (fun r' w' => r' = some (.int (iN 1)) ∧ JM sc w') := by
  obtain ⟨V, U, len, len2, t, t2, J, hM⟩ := h
  obtain ⟨v, p, sh, ln, pr, gd, co, c, s⟩ := V
  obtain ⟨v2, p2, sh2, ln2, pr2, gd2, co2, c2, s2⟩ := U
  obtain ⟨⟨rfl, rfl, rfl, rfl, rfl, rfl, rfl⟩, hc, hm⟩ := hM
  exact l_areAlikeT J hc hm

