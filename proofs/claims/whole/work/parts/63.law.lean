/-! the law -/
section LAW1
variable {M M2 : av_M} {pc pc2 len : Nat} {ls ls2 : av_L} {st st2 rest args : List Value} {w w2 : av_W} {P : Option Value → av_W → Prop} {i : Instr}
theorem r_slen {t L : Nat} {xs : Nat → Int32} (d : decode M.2.1 pc = .ok (.arraylength, 1)) (e : pc + 1 = pc2) (h99 : M.2.2.2.2.1 = 99) (hw : w.2.2 av_scr = .inl (t, L, .inl xs)) (n : rn M pc2 ls (.int (iN (L : Int)) :: st) w P) : rn M pc ls (.ref av_scr :: st) w P := by
  subst e
  refine rn_step d rfl rfl ?_ n
  show (if M.2.2.2.2.1 = 99 then av_slen 1 pc ls (.ref av_scr :: st) w else av_alen 1 pc ls (.ref av_scr :: st) w) = _
  rw [if_pos h99]
  unfold av_slen
  dsimp only
  rw [hw]
  dsimp only
  rw [if_pos ⟨rfl, rfl⟩, show Int32.ofNat L = iN (L : Int) from (Int32.ofInt_eq_ofNat).symm]
theorem av_inr_s {x : Int} {n : Nat} (h0 : 0 ≤ x) (hx : x < n) (hn : n ≤ 2048) : av_inr (iN x) n = true := by
  unfold av_inr
  simp only [Bool.and_eq_true, decide_eq_true_eq]
  have e : (iN x).toInt = x := iN_toInt (by omega)
  refine ⟨fun q => ?_, ?_⟩
  · have q2 := Int32.lt_iff_toInt_lt.mp q
    rw [e] at q2
    have : (0 : Int32).toInt = 0 := rfl
    omega
  · rw [iN_clamp (by omega)]
    omega
theorem r_sald {t L : Nat} {xs : Nat → Int32} {x : Int} (d : decode M.2.1 pc = .ok (.iaload, 1)) (e : pc + 1 = pc2) (h99 : M.2.2.2.2.1 = 99) (hw : w.2.2 av_scr = .inl (t, L, .inl xs)) (h0 : 0 ≤ x) (hx : x < L) (hn : L ≤ 2048) (n : rn M pc2 ls (.int (iN (xs x.toNat).toInt) :: st) w P) : rn M pc ls (.int (iN x) :: .ref av_scr :: st) w P := by
  subst e
  rw [← iN_of] at n
  refine rn_step d rfl rfl ?_ n
  show (if M.2.2.2.2.1 = 99 then av_sald 1 pc ls (.int (iN x) :: .ref av_scr :: st) w else av_xald 0 1 pc ls (.int (iN x) :: .ref av_scr :: st) w) = _
  rw [if_pos h99]
  unfold av_sald
  dsimp only
  rw [hw]
  dsimp only
  rw [if_pos ⟨rfl, rfl, av_inr_s h0 hx hn⟩, iN_clamp (by omega)]
theorem r_icmp_self {x : Int32} {off : Int} {tgt : Nat} (d : decode M.2.1 pc = .ok (.if_icmp .eq off, 3)) (et : (pc : Int) + off = (tgt : Int)) (kt : rn M tgt ls st w P) : rn M pc ls (.int x :: .int x :: st) w P := by
  refine rn_step d rfl rfl ?_ kt
  show av_if2 (fun x y => x = y) off 3 pc ls (.int x :: .int x :: st) w = _
  unfold av_if2 av_ifs
  dsimp only
  rw [if_pos rfl]
  unfold av_tgt
  rw [if_pos (by omega), et]
  show some (if x = x then ((tgt : Int)).toNat else pc + 3, ls, st, w) = _
  rw [if_pos rfl]
  rfl
theorem r_new {idx ci : Nat} (d : decode M.2.1 pc = .ok (.new idx, 3)) (e : pc + 3 = pc2) (hc : av_cls M.2.2.2.2.1 idx = some ci) (hw : av_wf ls st w = true) (n : rn M pc2 ls (.ref w.1 :: st) (w.1 + 1, w.2.1 + av_N ci, av_up w.2.2 w.1 (.inr (ci, av_df ci))) P) : rn M pc ls st w P := by
  subst e
  refine rn_step d rfl rfl ?_ n
  show av_new M.2.2.2.2.1 idx 3 pc ls st w = _
  unfold av_new
  rw [hc]
  dsimp only
  rw [if_pos ⟨rfl, hw⟩]
theorem r_init {idx k a : Nat} {P2 : Option Value → av_W → Prop} (d : decode M.2.1 pc = .ok (.invokespecial idx, 3)) (e : pc + 3 = pc2) (hr : av_res M.2.2.2.2.1 idx = some (k, M2)) (hk : k = 4 ∨ k = 5) (hh : M2.2.2.2.2.2.1 < M.2.2.2.2.2.1) (hn : M2.2.2.2.2.2.2 = 0) (hs : (rest.map (fun v => v.category)).sum ≤ 8) (hl : (av_ents [.ref a]).length ≤ M2.2.2.1) (c : cl M2 [.ref a] w P2)
    (n : ∀ r w2, P2 r w2 → av_back ls rest w w2 = true ∧ rn M pc2 ls (r.toList ++ rest) w2 P) : rn M pc ls (.ref a :: rest) w P := by
  subst e
  refine rn_call (k := k) (M2 := M2) (args := [.ref a]) (rest := rest) d rfl ?_ ?_ c n
  · show av_cut M 3 idx [4, 5] false _ = _
    unfold av_cut
    rw [hr]
    dsimp only
    rw [hn]
    rw [if_pos ⟨rfl, by rcases hk with rfl | rfl <;> decide, hh, by simp, by simpa using hs⟩]
    rfl
  · refine ⟨?_, hl⟩
    rcases hk with rfl | rfl <;> rfl
end LAW1
theorem i2c_rg (x : Int32) : 0 ≤ ((x.toUInt32 % 65536).toInt32).toInt ∧ ((x.toUInt32 % 65536).toInt32).toInt ≤ 65535 := by
  have h : (x.toUInt32 % 65536).toNat < 65536 := by
    rw [UInt32.toNat_mod]
    exact Nat.mod_lt _ (by decide)
  have e : ((x.toUInt32 % 65536).toInt32).toInt = ((x.toUInt32 % 65536).toNat : Int) := by
    show (x.toUInt32 % 65536).toBitVec.toInt = _
    exact BitVec.toInt_eq_toNat_of_lt (by show 2 * (x.toUInt32 % 65536).toNat < 2 ^ 32; omega)
  omega

set_option maxHeartbeats 8000000 in
theorem law_loop (Ln : Nat) (xs : Nat → Int32) (hL : Ln ≤ 2048) : ∀ (m : Nat) (i : Int) (w : av_W), (0 ≤ i ∧ i ≤ (Ln : Int) ∧ (Ln : Int) + 1 ≤ i + m) → JW (.inl (3, Ln, .inl xs)) w → rn ML_law 18 [some (.ref av_scr), some (.ref 0), some (.ref 33), some (.int (iN i))] [] w (fun r' w' => r' = some (.int 1) ∧ w'.1 = 42) := by
  intro m
  induction m with
  | zero =>
    intro i w h
    exfalso
    omega
  | succ m ih =>
    intro i w h J
    obtain ⟨n42, hsc, V0, L0, n0, S0, hs0, len0, t0, hCL, ⟨g0, ke0, -, ⟨sp0, rv0, rs0, oa0, z33w⟩, -⟩, -⟩ := id J
    have z0 : 0 < w.1 := by omega
    have z0w := hCL.2.1
    have nx : i + 4 ≤ (Ln : Int) → ∀ w2 : av_W, JW (.inl (3, Ln, .inl xs)) w2 → rn ML_law 792 [some (.ref av_scr), some (.ref 0), some (.ref 33), some (.int (iN i))] [] w2 (fun r' w' => r' = some (.int 1) ∧ w'.1 = 42) := by
      intro hi4 w2 J2
      refine r_iinc_3 (pc2 := 795) dL_law_792 rfl rfl ?_
      refine r_goto (tgt := 18) dL_law_795 (by decide) ?_
      exact ih (i + 4) w2 (by omega) J2
    refine r_iload_n (pc2 := 19) dL_law_18 rfl rfl ?_
    refine r_aload_n (pc2 := 20) dL_law_19 rfl rfl ?_
    refine r_slen (pc2 := 21) dL_law_20 rfl rfl hsc ?_
    refine r_iconst (pc2 := 22) dL_law_21 rfl ?_
    refine r_isub (pc2 := 23) dL_law_22 rfl ?_
    refine r_icmp_gt (pc2 := 26) (tgt := 798) dL_law_23 rfl (by decide) (by omega) (by omega) (fun h23 => ?_) (fun h23 => ?_)
    · refine r_iconst (pc2 := 799) dL_law_798 rfl ?_
      refine r_retb dL_law_799 rfl (by first | exact Or.inl rfl | exact Or.inr rfl | exact bz_01) ?_
      exact ⟨rfl, n42⟩
    · refine r_aload_n (pc2 := 27) dL_law_26 rfl rfl ?_
      refine r_iload_n (pc2 := 28) dL_law_27 rfl rfl ?_
      refine r_sald (pc2 := 29) dL_law_28 rfl rfl (by assumption) (by omega) (by omega) hL ?_
      refine r_bipush (pc2 := 31) dL_law_29 rfl (by decide) ?_
      refine r_iand (pc2 := 32) dL_law_31 rfl (iN_of _) ?_
      have hy := iN_rg (iN (xs i.toNat).toInt &&& iN 31)
      generalize (iN (xs i.toNat).toInt &&& iN 31).toInt = y at hy ⊢
      refine r_tab (len := 120) dL_law_32 ⟨by omega, by omega⟩ (fun hD => ⟨792, by decide, ?_⟩) (fun hI => ?_)
      · exact nx (by omega) w J
      · have hcase : y = 0 ∨ y = 1 ∨ y = 2 ∨ y = 3 ∨ y = 4 ∨ y = 5 ∨ y = 6 ∨ y = 7 ∨ y = 8 ∨ y = 9 ∨ y = 10 ∨ y = 11 ∨ y = 12 ∨ y = 13 ∨ y = 14 ∨ y = 15 ∨ y = 16 ∨ y = 17 ∨ y = 18 ∨ y = 19 ∨ y = 20 ∨ y = 21 ∨ y = 22 ∨ y = 23 ∨ y = 24 ∨ y = 25 := by omega
        rcases hcase with hX0 | hX1 | hX2 | hX3 | hX4 | hX5 | hX6 | hX7 | hX8 | hX9 | hX10 | hX11 | hX12 | hX13 | hX14 | hX15 | hX16 | hX17 | hX18 | hX19 | hX20 | hX21 | hX22 | hX23 | hX24 | hX25
        · refine ⟨120, 152, by rw [hX0]; rfl, by decide, ?_⟩
          refine r_aload_n (pc2 := 153) dL_law_152 rfl rfl ?_
          refine r_aload_n (pc2 := 154) dL_law_153 rfl rfl ?_
          refine r_iload_n (pc2 := 155) dL_law_154 rfl rfl ?_
          refine r_iconst (pc2 := 156) dL_law_155 rfl ?_
          refine r_iadd (pc2 := 157) dL_law_156 rfl ?_
          refine r_sald (pc2 := 158) dL_law_157 rfl rfl (by assumption) (by omega) (by omega) hL ?_
          refine r_aload_n (pc2 := 159) dL_law_158 rfl rfl ?_
          refine r_iload_n (pc2 := 160) dL_law_159 rfl rfl ?_
          refine r_iconst (pc2 := 161) dL_law_160 rfl ?_
          refine r_iadd (pc2 := 162) dL_law_161 rfl ?_
          refine r_sald (pc2 := 163) dL_law_162 rfl rfl (by assumption) (by omega) (by omega) hL ?_
          refine r_aload_n (pc2 := 164) dL_law_163 rfl rfl ?_
          refine r_iload_n (pc2 := 165) dL_law_164 rfl rfl ?_
          refine r_iconst (pc2 := 166) dL_law_165 rfl ?_
          refine r_iadd (pc2 := 167) dL_law_166 rfl ?_
          refine r_sald (pc2 := 168) dL_law_167 rfl rfl (by assumption) (by omega) (by omega) hL ?_
          refine r_callv_3 (pc2 := 171) dL_law_168 rfl rs_99_13 rfl (by decide) rfl (Nat.le_of_ble_eq_true rfl) (Nat.le_of_ble_eq_true rfl) (by assumption) (by assumption) (j_colour J _ (iN_rg _) _ (iN_rg _) _ (iN_rg _)) (fun r_ w_ h_ => ?_)
          obtain ⟨ga, x, e_, hm⟩ := h_
          rw [e_]
          clear e_
          obtain ⟨w1, rfl⟩ : ∃ w1, w1 = w_ := ⟨_, rfl⟩
          have s1 : w1.2.2 av_scr = .inl (3, Ln, .inl xs) := (ga.2 av_scr (Or.inr (by decide))).trans hsc
          have z1 : 33 < w1.1 := by rw [ga.1]; omega
          have z1w := (ga.2 33 (Or.inr (by decide))).trans z33w
          refine ⟨ga.1, ?_⟩
          refine r_aload_n (pc2 := 172) dL_law_171 rfl rfl ?_
          refine r_aload_n (pc2 := 173) dL_law_172 rfl rfl ?_
          refine r_iload_n (pc2 := 174) dL_law_173 rfl rfl ?_
          refine r_iconst (pc2 := 175) dL_law_174 rfl ?_
          refine r_iadd (pc2 := 176) dL_law_175 rfl ?_
          refine r_sald (pc2 := 177) dL_law_176 rfl rfl (by assumption) (by omega) (by omega) hL ?_
          refine r_aload_n (pc2 := 178) dL_law_177 rfl rfl ?_
          refine r_iload_n (pc2 := 179) dL_law_178 rfl rfl ?_
          refine r_iconst (pc2 := 180) dL_law_179 rfl ?_
          refine r_iadd (pc2 := 181) dL_law_180 rfl ?_
          refine r_sald (pc2 := 182) dL_law_181 rfl rfl (by assumption) (by omega) (by omega) hL ?_
          refine r_aload_n (pc2 := 183) dL_law_182 rfl rfl ?_
          refine r_iload_n (pc2 := 184) dL_law_183 rfl rfl ?_
          refine r_iconst (pc2 := 185) dL_law_184 rfl ?_
          refine r_iadd (pc2 := 186) dL_law_185 rfl ?_
          refine r_sald (pc2 := 187) dL_law_186 rfl rfl (by assumption) (by omega) (by omega) hL ?_
          refine r_callv_3 (pc2 := 190) dL_law_187 rfl rs_99_17 rfl (by decide) rfl (Nat.le_of_ble_eq_true rfl) (Nat.le_of_ble_eq_true rfl) (by assumption) (by assumption) hm (fun r_ w_ h_ => ?_)
          obtain ⟨e2, gb, J2⟩ := h_
          rw [e2]
          clear e2
          obtain ⟨w2, rfl⟩ : ∃ w2, w2 = w_ := ⟨_, rfl⟩
          refine ⟨gb.1, ?_⟩
          refine r_icmp_self (tgt := 792) dL_law_190 (by decide) ?_
          exact nx (by omega) w2 J2
        · refine ⟨163, 195, by rw [hX1]; rfl, by decide, ?_⟩
          refine r_aload_n (pc2 := 196) dL_law_195 rfl rfl ?_
          refine r_callv_0 (pc2 := 199) dL_law_196 rfl rs_99_18 rfl (by decide) rfl (Nat.le_of_ble_eq_true rfl) (Nat.le_of_ble_eq_true rfl) (by assumption) (by assumption) (j_addView J) (fun r_ w_ h_ => ?_)
          obtain ⟨ga, x, e_, hm⟩ := h_
          rw [e_]
          clear e_
          obtain ⟨w1, rfl⟩ : ∃ w1, w1 = w_ := ⟨_, rfl⟩
          have s1 : w1.2.2 av_scr = .inl (3, Ln, .inl xs) := (ga.2 av_scr (Or.inr (by decide))).trans hsc
          have z1 : 33 < w1.1 := by rw [ga.1]; omega
          have z1w := (ga.2 33 (Or.inr (by decide))).trans z33w
          refine ⟨ga.1, ?_⟩
          refine r_aload_n (pc2 := 200) dL_law_199 rfl rfl ?_
          refine r_callv_0 (pc2 := 203) dL_law_200 rfl rs_99_22 rfl (by decide) rfl (Nat.le_of_ble_eq_true rfl) (Nat.le_of_ble_eq_true rfl) (by assumption) (by assumption) hm (fun r_ w_ h_ => ?_)
          obtain ⟨e2, gb, J2⟩ := h_
          rw [e2]
          clear e2
          obtain ⟨w2, rfl⟩ : ∃ w2, w2 = w_ := ⟨_, rfl⟩
          refine ⟨gb.1, ?_⟩
          refine r_icmp_self (tgt := 792) dL_law_203 (by decide) ?_
          exact nx (by omega) w2 J2
        · refine ⟨176, 208, by rw [hX2]; rfl, by decide, ?_⟩
          refine r_aload_n (pc2 := 209) dL_law_208 rfl rfl ?_
          refine r_aload_n (pc2 := 210) dL_law_209 rfl rfl ?_
          refine r_iload_n (pc2 := 211) dL_law_210 rfl rfl ?_
          refine r_iconst (pc2 := 212) dL_law_211 rfl ?_
          refine r_iadd (pc2 := 213) dL_law_212 rfl ?_
          refine r_sald (pc2 := 214) dL_law_213 rfl rfl (by assumption) (by omega) (by omega) hL ?_
          refine r_callv_1 (pc2 := 217) dL_law_214 rfl rs_99_23 rfl (by decide) rfl (Nat.le_of_ble_eq_true rfl) (Nat.le_of_ble_eq_true rfl) (by assumption) (by assumption) (j_removeView J _ (iN_rg _)) (fun r_ w_ h_ => ?_)
          obtain ⟨ga, x, e_, hm⟩ := h_
          rw [e_]
          clear e_
          obtain ⟨w1, rfl⟩ : ∃ w1, w1 = w_ := ⟨_, rfl⟩
          have s1 : w1.2.2 av_scr = .inl (3, Ln, .inl xs) := (ga.2 av_scr (Or.inr (by decide))).trans hsc
          have z1 : 33 < w1.1 := by rw [ga.1]; omega
          have z1w := (ga.2 33 (Or.inr (by decide))).trans z33w
          refine ⟨ga.1, ?_⟩
          refine r_aload_n (pc2 := 218) dL_law_217 rfl rfl ?_
          refine r_aload_n (pc2 := 219) dL_law_218 rfl rfl ?_
          refine r_iload_n (pc2 := 220) dL_law_219 rfl rfl ?_
          refine r_iconst (pc2 := 221) dL_law_220 rfl ?_
          refine r_iadd (pc2 := 222) dL_law_221 rfl ?_
          refine r_sald (pc2 := 223) dL_law_222 rfl rfl (by assumption) (by omega) (by omega) hL ?_
          refine r_callv_1 (pc2 := 226) dL_law_223 rfl rs_99_27 rfl (by decide) rfl (Nat.le_of_ble_eq_true rfl) (Nat.le_of_ble_eq_true rfl) (by assumption) (by assumption) hm (fun r_ w_ h_ => ?_)
          obtain ⟨e2, gb, J2⟩ := h_
          rw [e2]
          clear e2
          obtain ⟨w2, rfl⟩ : ∃ w2, w2 = w_ := ⟨_, rfl⟩
          refine ⟨gb.1, ?_⟩
          refine r_icmp_self (tgt := 792) dL_law_226 (by decide) ?_
          exact nx (by omega) w2 J2
        · refine ⟨199, 231, by rw [hX3]; rfl, by decide, ?_⟩
          refine r_aload_n (pc2 := 232) dL_law_231 rfl rfl ?_
          refine r_aload_n (pc2 := 233) dL_law_232 rfl rfl ?_
          refine r_iload_n (pc2 := 234) dL_law_233 rfl rfl ?_
          refine r_iconst (pc2 := 235) dL_law_234 rfl ?_
          refine r_iadd (pc2 := 236) dL_law_235 rfl ?_
          refine r_sald (pc2 := 237) dL_law_236 rfl rfl (by assumption) (by omega) (by omega) hL ?_
          refine r_aload_n (pc2 := 238) dL_law_237 rfl rfl ?_
          refine r_iload_n (pc2 := 239) dL_law_238 rfl rfl ?_
          refine r_iconst (pc2 := 240) dL_law_239 rfl ?_
          refine r_iadd (pc2 := 241) dL_law_240 rfl ?_
          refine r_sald (pc2 := 242) dL_law_241 rfl rfl (by assumption) (by omega) (by omega) hL ?_
          refine r_callv_2 (pc2 := 245) dL_law_242 rfl rs_99_28 rfl (by decide) rfl (Nat.le_of_ble_eq_true rfl) (Nat.le_of_ble_eq_true rfl) (by assumption) (by assumption) (j_swap J _ (iN_rg _) _ (iN_rg _)) (fun r_ w_ h_ => ?_)
          obtain ⟨ga, x, e_, hm⟩ := h_
          rw [e_]
          clear e_
          obtain ⟨w1, rfl⟩ : ∃ w1, w1 = w_ := ⟨_, rfl⟩
          have s1 : w1.2.2 av_scr = .inl (3, Ln, .inl xs) := (ga.2 av_scr (Or.inr (by decide))).trans hsc
          have z1 : 33 < w1.1 := by rw [ga.1]; omega
          have z1w := (ga.2 33 (Or.inr (by decide))).trans z33w
          refine ⟨ga.1, ?_⟩
          refine r_aload_n (pc2 := 246) dL_law_245 rfl rfl ?_
          refine r_aload_n (pc2 := 247) dL_law_246 rfl rfl ?_
          refine r_iload_n (pc2 := 248) dL_law_247 rfl rfl ?_
          refine r_iconst (pc2 := 249) dL_law_248 rfl ?_
          refine r_iadd (pc2 := 250) dL_law_249 rfl ?_
          refine r_sald (pc2 := 251) dL_law_250 rfl rfl (by assumption) (by omega) (by omega) hL ?_
          refine r_aload_n (pc2 := 252) dL_law_251 rfl rfl ?_
          refine r_iload_n (pc2 := 253) dL_law_252 rfl rfl ?_
          refine r_iconst (pc2 := 254) dL_law_253 rfl ?_
          refine r_iadd (pc2 := 255) dL_law_254 rfl ?_
          refine r_sald (pc2 := 256) dL_law_255 rfl rfl (by assumption) (by omega) (by omega) hL ?_
          refine r_callv_2 (pc2 := 259) dL_law_256 rfl rs_99_32 rfl (by decide) rfl (Nat.le_of_ble_eq_true rfl) (Nat.le_of_ble_eq_true rfl) (by assumption) (by assumption) hm (fun r_ w_ h_ => ?_)
          obtain ⟨e2, gb, J2⟩ := h_
          rw [e2]
          clear e2
          obtain ⟨w2, rfl⟩ : ∃ w2, w2 = w_ := ⟨_, rfl⟩
          refine ⟨gb.1, ?_⟩
          refine r_icmp_self (tgt := 792) dL_law_259 (by decide) ?_
          exact nx (by omega) w2 J2
        · refine ⟨232, 264, by rw [hX4]; rfl, by decide, ?_⟩
          refine r_aload_n (pc2 := 265) dL_law_264 rfl rfl ?_
          refine r_aload_n (pc2 := 266) dL_law_265 rfl rfl ?_
          refine r_iload_n (pc2 := 267) dL_law_266 rfl rfl ?_
          refine r_iconst (pc2 := 268) dL_law_267 rfl ?_
          refine r_iadd (pc2 := 269) dL_law_268 rfl ?_
          refine r_sald (pc2 := 270) dL_law_269 rfl rfl (by assumption) (by omega) (by omega) hL ?_
          refine r_callv_1 (pc2 := 273) dL_law_270 rfl rs_99_33 rfl (by decide) rfl (Nat.le_of_ble_eq_true rfl) (Nat.le_of_ble_eq_true rfl) (by assumption) (by assumption) (j_setPitch J _ (iN_rg _)) (fun r_ w_ h_ => ?_)
          obtain ⟨ga, x, e_, hm⟩ := h_
          rw [e_]
          clear e_
          obtain ⟨w1, rfl⟩ : ∃ w1, w1 = w_ := ⟨_, rfl⟩
          have s1 : w1.2.2 av_scr = .inl (3, Ln, .inl xs) := (ga.2 av_scr (Or.inr (by decide))).trans hsc
          have z1 : 33 < w1.1 := by rw [ga.1]; omega
          have z1w := (ga.2 33 (Or.inr (by decide))).trans z33w
          refine ⟨ga.1, ?_⟩
          refine r_aload_n (pc2 := 274) dL_law_273 rfl rfl ?_
          refine r_aload_n (pc2 := 275) dL_law_274 rfl rfl ?_
          refine r_iload_n (pc2 := 276) dL_law_275 rfl rfl ?_
          refine r_iconst (pc2 := 277) dL_law_276 rfl ?_
          refine r_iadd (pc2 := 278) dL_law_277 rfl ?_
          refine r_sald (pc2 := 279) dL_law_278 rfl rfl (by assumption) (by omega) (by omega) hL ?_
          refine r_callv_1 (pc2 := 282) dL_law_279 rfl rs_99_36 rfl (by decide) rfl (Nat.le_of_ble_eq_true rfl) (Nat.le_of_ble_eq_true rfl) (by assumption) (by assumption) hm (fun r_ w_ h_ => ?_)
          obtain ⟨e2, gb, J2⟩ := h_
          rw [e2]
          clear e2
          obtain ⟨w2, rfl⟩ : ∃ w2, w2 = w_ := ⟨_, rfl⟩
          refine ⟨gb.1, ?_⟩
          refine r_icmp_self (tgt := 792) dL_law_282 (by decide) ?_
          exact nx (by omega) w2 J2
        · refine ⟨255, 287, by rw [hX5]; rfl, by decide, ?_⟩
          refine r_aload_n (pc2 := 288) dL_law_287 rfl rfl ?_
          refine r_aload_n (pc2 := 289) dL_law_288 rfl rfl ?_
          refine r_iload_n (pc2 := 290) dL_law_289 rfl rfl ?_
          refine r_iconst (pc2 := 291) dL_law_290 rfl ?_
          refine r_iadd (pc2 := 292) dL_law_291 rfl ?_
          refine r_sald (pc2 := 293) dL_law_292 rfl rfl (by assumption) (by omega) (by omega) hL ?_
          refine r_aload_n (pc2 := 294) dL_law_293 rfl rfl ?_
          refine r_iload_n (pc2 := 295) dL_law_294 rfl rfl ?_
          refine r_iconst (pc2 := 296) dL_law_295 rfl ?_
          refine r_iadd (pc2 := 297) dL_law_296 rfl ?_
          refine r_sald (pc2 := 298) dL_law_297 rfl rfl (by assumption) (by omega) (by omega) hL ?_
          refine r_callv_2 (pc2 := 301) dL_law_298 rfl rs_99_37 rfl (by decide) rfl (Nat.le_of_ble_eq_true rfl) (Nat.le_of_ble_eq_true rfl) (by assumption) (by assumption) (j_slice J _ (iN_rg _) _ (iN_rg _)) (fun r_ w_ h_ => ?_)
          obtain ⟨ga, x, e_, hm⟩ := h_
          rw [e_]
          clear e_
          obtain ⟨w1, rfl⟩ : ∃ w1, w1 = w_ := ⟨_, rfl⟩
          have s1 : w1.2.2 av_scr = .inl (3, Ln, .inl xs) := (ga.2 av_scr (Or.inr (by decide))).trans hsc
          have z1 : 33 < w1.1 := by rw [ga.1]; omega
          have z1w := (ga.2 33 (Or.inr (by decide))).trans z33w
          refine ⟨ga.1, ?_⟩
          refine r_aload_n (pc2 := 302) dL_law_301 rfl rfl ?_
          refine r_aload_n (pc2 := 303) dL_law_302 rfl rfl ?_
          refine r_iload_n (pc2 := 304) dL_law_303 rfl rfl ?_
          refine r_iconst (pc2 := 305) dL_law_304 rfl ?_
          refine r_iadd (pc2 := 306) dL_law_305 rfl ?_
          refine r_sald (pc2 := 307) dL_law_306 rfl rfl (by assumption) (by omega) (by omega) hL ?_
          refine r_aload_n (pc2 := 308) dL_law_307 rfl rfl ?_
          refine r_iload_n (pc2 := 309) dL_law_308 rfl rfl ?_
          refine r_iconst (pc2 := 310) dL_law_309 rfl ?_
          refine r_iadd (pc2 := 311) dL_law_310 rfl ?_
          refine r_sald (pc2 := 312) dL_law_311 rfl rfl (by assumption) (by omega) (by omega) hL ?_
          refine r_callv_2 (pc2 := 315) dL_law_312 rfl rs_99_40 rfl (by decide) rfl (Nat.le_of_ble_eq_true rfl) (Nat.le_of_ble_eq_true rfl) (by assumption) (by assumption) hm (fun r_ w_ h_ => ?_)
          obtain ⟨e2, gb, J2⟩ := h_
          rw [e2]
          clear e2
          obtain ⟨w2, rfl⟩ : ∃ w2, w2 = w_ := ⟨_, rfl⟩
          refine ⟨gb.1, ?_⟩
          refine r_icmp_self (tgt := 792) dL_law_315 (by decide) ?_
          exact nx (by omega) w2 J2
        · refine ⟨288, 320, by rw [hX6]; rfl, by decide, ?_⟩
          refine r_aload_n (pc2 := 321) dL_law_320 rfl rfl ?_
          refine r_aload_n (pc2 := 322) dL_law_321 rfl rfl ?_
          refine r_iload_n (pc2 := 323) dL_law_322 rfl rfl ?_
          refine r_iconst (pc2 := 324) dL_law_323 rfl ?_
          refine r_iadd (pc2 := 325) dL_law_324 rfl ?_
          refine r_sald (pc2 := 326) dL_law_325 rfl rfl (by assumption) (by omega) (by omega) hL ?_
          refine r_callv_1 (pc2 := 329) dL_law_326 rfl rs_99_41 rfl (by decide) rfl (Nat.le_of_ble_eq_true rfl) (Nat.le_of_ble_eq_true rfl) (by assumption) (by assumption) (j_setShift J _ (iN_rg _)) (fun r_ w_ h_ => ?_)
          obtain ⟨ga, x, e_, hm⟩ := h_
          rw [e_]
          clear e_
          obtain ⟨w1, rfl⟩ : ∃ w1, w1 = w_ := ⟨_, rfl⟩
          have s1 : w1.2.2 av_scr = .inl (3, Ln, .inl xs) := (ga.2 av_scr (Or.inr (by decide))).trans hsc
          have z1 : 33 < w1.1 := by rw [ga.1]; omega
          have z1w := (ga.2 33 (Or.inr (by decide))).trans z33w
          refine ⟨ga.1, ?_⟩
          refine r_aload_n (pc2 := 330) dL_law_329 rfl rfl ?_
          refine r_aload_n (pc2 := 331) dL_law_330 rfl rfl ?_
          refine r_iload_n (pc2 := 332) dL_law_331 rfl rfl ?_
          refine r_iconst (pc2 := 333) dL_law_332 rfl ?_
          refine r_iadd (pc2 := 334) dL_law_333 rfl ?_
          refine r_sald (pc2 := 335) dL_law_334 rfl rfl (by assumption) (by omega) (by omega) hL ?_
          refine r_callv_1 (pc2 := 338) dL_law_335 rfl rs_99_44 rfl (by decide) rfl (Nat.le_of_ble_eq_true rfl) (Nat.le_of_ble_eq_true rfl) (by assumption) (by assumption) hm (fun r_ w_ h_ => ?_)
          obtain ⟨e2, gb, J2⟩ := h_
          rw [e2]
          clear e2
          obtain ⟨w2, rfl⟩ : ∃ w2, w2 = w_ := ⟨_, rfl⟩
          refine ⟨gb.1, ?_⟩
          refine r_icmp_self (tgt := 792) dL_law_338 (by decide) ?_
          exact nx (by omega) w2 J2
        · refine ⟨311, 343, by rw [hX7]; rfl, by decide, ?_⟩
          refine r_aload_n (pc2 := 344) dL_law_343 rfl rfl ?_
          refine r_aload_n (pc2 := 345) dL_law_344 rfl rfl ?_
          refine r_iload_n (pc2 := 346) dL_law_345 rfl rfl ?_
          refine r_iconst (pc2 := 347) dL_law_346 rfl ?_
          refine r_iadd (pc2 := 348) dL_law_347 rfl ?_
          refine r_sald (pc2 := 349) dL_law_348 rfl rfl (by assumption) (by omega) (by omega) hL ?_
          refine r_callv_1 (pc2 := 352) dL_law_349 rfl rs_99_45 rfl (by decide) rfl (Nat.le_of_ble_eq_true rfl) (Nat.le_of_ble_eq_true rfl) (by assumption) (by assumption) (j_setLean J _ (iN_rg _)) (fun r_ w_ h_ => ?_)
          obtain ⟨ga, x, e_, hm⟩ := h_
          rw [e_]
          clear e_
          obtain ⟨w1, rfl⟩ : ∃ w1, w1 = w_ := ⟨_, rfl⟩
          have s1 : w1.2.2 av_scr = .inl (3, Ln, .inl xs) := (ga.2 av_scr (Or.inr (by decide))).trans hsc
          have z1 : 33 < w1.1 := by rw [ga.1]; omega
          have z1w := (ga.2 33 (Or.inr (by decide))).trans z33w
          refine ⟨ga.1, ?_⟩
          refine r_aload_n (pc2 := 353) dL_law_352 rfl rfl ?_
          refine r_aload_n (pc2 := 354) dL_law_353 rfl rfl ?_
          refine r_iload_n (pc2 := 355) dL_law_354 rfl rfl ?_
          refine r_iconst (pc2 := 356) dL_law_355 rfl ?_
          refine r_iadd (pc2 := 357) dL_law_356 rfl ?_
          refine r_sald (pc2 := 358) dL_law_357 rfl rfl (by assumption) (by omega) (by omega) hL ?_
          refine r_callv_1 (pc2 := 361) dL_law_358 rfl rs_99_48 rfl (by decide) rfl (Nat.le_of_ble_eq_true rfl) (Nat.le_of_ble_eq_true rfl) (by assumption) (by assumption) hm (fun r_ w_ h_ => ?_)
          obtain ⟨e2, gb, J2⟩ := h_
          rw [e2]
          clear e2
          obtain ⟨w2, rfl⟩ : ∃ w2, w2 = w_ := ⟨_, rfl⟩
          refine ⟨gb.1, ?_⟩
          refine r_icmp_self (tgt := 792) dL_law_361 (by decide) ?_
          exact nx (by omega) w2 J2
        · refine ⟨334, 366, by rw [hX8]; rfl, by decide, ?_⟩
          refine r_aload_n (pc2 := 367) dL_law_366 rfl rfl ?_
          refine r_callv_0 (pc2 := 370) dL_law_367 rfl rs_99_49 rfl (by decide) rfl (Nat.le_of_ble_eq_true rfl) (Nat.le_of_ble_eq_true rfl) (by assumption) (by assumption) (j_order J) (fun r_ w_ h_ => ?_)
          obtain ⟨ga, x, e_, hm⟩ := h_
          rw [e_]
          clear e_
          obtain ⟨w1, rfl⟩ : ∃ w1, w1 = w_ := ⟨_, rfl⟩
          have s1 : w1.2.2 av_scr = .inl (3, Ln, .inl xs) := (ga.2 av_scr (Or.inr (by decide))).trans hsc
          have z1 : 33 < w1.1 := by rw [ga.1]; omega
          have z1w := (ga.2 33 (Or.inr (by decide))).trans z33w
          refine ⟨ga.1, ?_⟩
          refine r_aload_n (pc2 := 371) dL_law_370 rfl rfl ?_
          refine r_callv_0 (pc2 := 374) dL_law_371 rfl rs_99_52 rfl (by decide) rfl (Nat.le_of_ble_eq_true rfl) (Nat.le_of_ble_eq_true rfl) (by assumption) (by assumption) hm (fun r_ w_ h_ => ?_)
          obtain ⟨e2, gb, J2⟩ := h_
          rw [e2]
          clear e2
          obtain ⟨w2, rfl⟩ : ∃ w2, w2 = w_ := ⟨_, rfl⟩
          refine ⟨gb.1, ?_⟩
          refine r_icmp_self (tgt := 792) dL_law_374 (by decide) ?_
          exact nx (by omega) w2 J2
        · refine ⟨347, 379, by rw [hX9]; rfl, by decide, ?_⟩
          refine r_aload_n (pc2 := 380) dL_law_379 rfl rfl ?_
          refine r_callv_0 (pc2 := 383) dL_law_380 rfl rs_99_53 rfl (by decide) rfl (Nat.le_of_ble_eq_true rfl) (Nat.le_of_ble_eq_true rfl) (by assumption) (by assumption) (j_read J) (fun r_ w_ h_ => ?_)
          obtain ⟨ga, x, e_, hm⟩ := h_
          rw [e_]
          clear e_
          obtain ⟨w1, rfl⟩ : ∃ w1, w1 = w_ := ⟨_, rfl⟩
          have s1 : w1.2.2 av_scr = .inl (3, Ln, .inl xs) := (ga.2 av_scr (Or.inr (by decide))).trans hsc
          have z1 : 33 < w1.1 := by rw [ga.1]; omega
          have z1w := (ga.2 33 (Or.inr (by decide))).trans z33w
          refine ⟨ga.1, ?_⟩
          refine r_aload_n (pc2 := 384) dL_law_383 rfl rfl ?_
          refine r_callv_0 (pc2 := 387) dL_law_384 rfl rs_99_56 rfl (by decide) rfl (Nat.le_of_ble_eq_true rfl) (Nat.le_of_ble_eq_true rfl) (by assumption) (by assumption) hm (fun r_ w_ h_ => ?_)
          obtain ⟨e2, gb, J2⟩ := h_
          rw [e2]
          clear e2
          obtain ⟨w2, rfl⟩ : ∃ w2, w2 = w_ := ⟨_, rfl⟩
          refine ⟨gb.1, ?_⟩
          refine r_icmp_self (tgt := 792) dL_law_387 (by decide) ?_
          exact nx (by omega) w2 J2
        · refine ⟨360, 392, by rw [hX10]; rfl, by decide, ?_⟩
          refine r_aload_n (pc2 := 393) dL_law_392 rfl rfl ?_
          refine r_aload_n (pc2 := 394) dL_law_393 rfl rfl ?_
          refine r_iload_n (pc2 := 395) dL_law_394 rfl rfl ?_
          refine r_iconst (pc2 := 396) dL_law_395 rfl ?_
          refine r_iadd (pc2 := 397) dL_law_396 rfl ?_
          refine r_sald (pc2 := 398) dL_law_397 rfl rfl (by assumption) (by omega) (by omega) hL ?_
          refine r_callv_1 (pc2 := 401) dL_law_398 rfl rs_99_57 rfl (by decide) rfl (Nat.le_of_ble_eq_true rfl) (Nat.le_of_ble_eq_true rfl) (by assumption) (by assumption) (j_press J _ (iN_rg _)) (fun r_ w_ h_ => ?_)
          obtain ⟨ga, x, e_, hm⟩ := h_
          rw [e_]
          clear e_
          obtain ⟨w1, rfl⟩ : ∃ w1, w1 = w_ := ⟨_, rfl⟩
          have s1 : w1.2.2 av_scr = .inl (3, Ln, .inl xs) := (ga.2 av_scr (Or.inr (by decide))).trans hsc
          have z1 : 33 < w1.1 := by rw [ga.1]; omega
          have z1w := (ga.2 33 (Or.inr (by decide))).trans z33w
          refine ⟨ga.1, ?_⟩
          refine r_aload_n (pc2 := 402) dL_law_401 rfl rfl ?_
          refine r_aload_n (pc2 := 403) dL_law_402 rfl rfl ?_
          refine r_iload_n (pc2 := 404) dL_law_403 rfl rfl ?_
          refine r_iconst (pc2 := 405) dL_law_404 rfl ?_
          refine r_iadd (pc2 := 406) dL_law_405 rfl ?_
          refine r_sald (pc2 := 407) dL_law_406 rfl rfl (by assumption) (by omega) (by omega) hL ?_
          refine r_callv_1 (pc2 := 410) dL_law_407 rfl rs_99_60 rfl (by decide) rfl (Nat.le_of_ble_eq_true rfl) (Nat.le_of_ble_eq_true rfl) (by assumption) (by assumption) hm (fun r_ w_ h_ => ?_)
          obtain ⟨e2, gb, J2⟩ := h_
          rw [e2]
          clear e2
          obtain ⟨w2, rfl⟩ : ∃ w2, w2 = w_ := ⟨_, rfl⟩
          refine ⟨gb.1, ?_⟩
          refine r_icmp_self (tgt := 792) dL_law_410 (by decide) ?_
          exact nx (by omega) w2 J2
        · refine ⟨383, 415, by rw [hX11]; rfl, by decide, ?_⟩
          refine r_aload_n (pc2 := 416) dL_law_415 rfl rfl ?_
          refine r_aload_n (pc2 := 417) dL_law_416 rfl rfl ?_
          refine r_iload_n (pc2 := 418) dL_law_417 rfl rfl ?_
          refine r_iconst (pc2 := 419) dL_law_418 rfl ?_
          refine r_iadd (pc2 := 420) dL_law_419 rfl ?_
          refine r_sald (pc2 := 421) dL_law_420 rfl rfl (by assumption) (by omega) (by omega) hL ?_
          refine r_i2c (pc2 := 422) dL_law_421 rfl (iN_of _) ?_
          refine r_callv_1 (pc2 := 425) dL_law_422 rfl rs_99_61 rfl (by decide) rfl (Nat.le_of_ble_eq_true rfl) (Nat.le_of_ble_eq_true rfl) (by assumption) (by assumption) (j_type J _ (i2c_rg _)) (fun r_ w_ h_ => ?_)
          obtain ⟨ga, x, e_, hm⟩ := h_
          rw [e_]
          clear e_
          obtain ⟨w1, rfl⟩ : ∃ w1, w1 = w_ := ⟨_, rfl⟩
          have s1 : w1.2.2 av_scr = .inl (3, Ln, .inl xs) := (ga.2 av_scr (Or.inr (by decide))).trans hsc
          have z1 : 33 < w1.1 := by rw [ga.1]; omega
          have z1w := (ga.2 33 (Or.inr (by decide))).trans z33w
          refine ⟨ga.1, ?_⟩
          refine r_aload_n (pc2 := 426) dL_law_425 rfl rfl ?_
          refine r_aload_n (pc2 := 427) dL_law_426 rfl rfl ?_
          refine r_iload_n (pc2 := 428) dL_law_427 rfl rfl ?_
          refine r_iconst (pc2 := 429) dL_law_428 rfl ?_
          refine r_iadd (pc2 := 430) dL_law_429 rfl ?_
          refine r_sald (pc2 := 431) dL_law_430 rfl rfl (by assumption) (by omega) (by omega) hL ?_
          refine r_i2c (pc2 := 432) dL_law_431 rfl (iN_of _) ?_
          refine r_callv_1 (pc2 := 435) dL_law_432 rfl rs_99_65 rfl (by decide) rfl (Nat.le_of_ble_eq_true rfl) (Nat.le_of_ble_eq_true rfl) (by assumption) (by assumption) hm (fun r_ w_ h_ => ?_)
          obtain ⟨e2, gb, J2⟩ := h_
          rw [e2]
          clear e2
          obtain ⟨w2, rfl⟩ : ∃ w2, w2 = w_ := ⟨_, rfl⟩
          refine ⟨gb.1, ?_⟩
          refine r_icmp_self (tgt := 792) dL_law_435 (by decide) ?_
          exact nx (by omega) w2 J2
        · refine ⟨408, 440, by rw [hX12]; rfl, by decide, ?_⟩
          refine r_aload_n (pc2 := 441) dL_law_440 rfl rfl ?_
          refine r_callv_0 (pc2 := 444) dL_law_441 rfl rs_99_66 rfl (by decide) rfl (Nat.le_of_ble_eq_true rfl) (Nat.le_of_ble_eq_true rfl) (by assumption) (by assumption) (j_clearText J) (fun r_ w_ h_ => ?_)
          obtain ⟨ga, x, e_, hm⟩ := h_
          rw [e_]
          clear e_
          obtain ⟨w1, rfl⟩ : ∃ w1, w1 = w_ := ⟨_, rfl⟩
          have s1 : w1.2.2 av_scr = .inl (3, Ln, .inl xs) := (ga.2 av_scr (Or.inr (by decide))).trans hsc
          have z1 : 33 < w1.1 := by rw [ga.1]; omega
          have z1w := (ga.2 33 (Or.inr (by decide))).trans z33w
          refine ⟨ga.1, ?_⟩
          refine r_aload_n (pc2 := 445) dL_law_444 rfl rfl ?_
          refine r_callv_0 (pc2 := 448) dL_law_445 rfl rs_99_69 rfl (by decide) rfl (Nat.le_of_ble_eq_true rfl) (Nat.le_of_ble_eq_true rfl) (by assumption) (by assumption) hm (fun r_ w_ h_ => ?_)
          obtain ⟨e2, gb, J2⟩ := h_
          rw [e2]
          clear e2
          obtain ⟨w2, rfl⟩ : ∃ w2, w2 = w_ := ⟨_, rfl⟩
          refine ⟨gb.1, ?_⟩
          refine r_icmp_self (tgt := 792) dL_law_448 (by decide) ?_
          exact nx (by omega) w2 J2
        · refine ⟨421, 453, by rw [hX13]; rfl, by decide, ?_⟩
          refine r_aload_n (pc2 := 454) dL_law_453 rfl rfl ?_
          refine r_callv_0 (pc2 := 457) dL_law_454 rfl rs_99_70 rfl (by decide) rfl (Nat.le_of_ble_eq_true rfl) (Nat.le_of_ble_eq_true rfl) (by assumption) (by assumption) (j_undo J) (fun r_ w_ h_ => ?_)
          obtain ⟨ga, x, e_, hm⟩ := h_
          rw [e_]
          clear e_
          obtain ⟨w1, rfl⟩ : ∃ w1, w1 = w_ := ⟨_, rfl⟩
          have s1 : w1.2.2 av_scr = .inl (3, Ln, .inl xs) := (ga.2 av_scr (Or.inr (by decide))).trans hsc
          have z1 : 33 < w1.1 := by rw [ga.1]; omega
          have z1w := (ga.2 33 (Or.inr (by decide))).trans z33w
          refine ⟨ga.1, ?_⟩
          refine r_aload_n (pc2 := 458) dL_law_457 rfl rfl ?_
          refine r_callv_0 (pc2 := 461) dL_law_458 rfl rs_99_73 rfl (by decide) rfl (Nat.le_of_ble_eq_true rfl) (Nat.le_of_ble_eq_true rfl) (by assumption) (by assumption) hm (fun r_ w_ h_ => ?_)
          obtain ⟨e2, gb, J2⟩ := h_
          rw [e2]
          clear e2
          obtain ⟨w2, rfl⟩ : ∃ w2, w2 = w_ := ⟨_, rfl⟩
          refine ⟨gb.1, ?_⟩
          refine r_icmp_self (tgt := 792) dL_law_461 (by decide) ?_
          exact nx (by omega) w2 J2
        · refine ⟨434, 466, by rw [hX14]; rfl, by decide, ?_⟩
          refine r_aload_n (pc2 := 467) dL_law_466 rfl rfl ?_
          refine r_callv_0 (pc2 := 470) dL_law_467 rfl rs_99_74 rfl (by decide) rfl (Nat.le_of_ble_eq_true rfl) (Nat.le_of_ble_eq_true rfl) (by assumption) (by assumption) (j_keep J) (fun r_ w_ h_ => ?_)
          obtain ⟨ga, x, e_, hm⟩ := h_
          rw [e_]
          clear e_
          obtain ⟨w1, rfl⟩ : ∃ w1, w1 = w_ := ⟨_, rfl⟩
          have s1 : w1.2.2 av_scr = .inl (3, Ln, .inl xs) := (ga.2 av_scr (Or.inr (by decide))).trans hsc
          have z1 : 33 < w1.1 := by rw [ga.1]; omega
          have z1w := (ga.2 33 (Or.inr (by decide))).trans z33w
          refine ⟨ga.1, ?_⟩
          refine r_aload_n (pc2 := 471) dL_law_470 rfl rfl ?_
          refine r_callv_0 (pc2 := 474) dL_law_471 rfl rs_99_77 rfl (by decide) rfl (Nat.le_of_ble_eq_true rfl) (Nat.le_of_ble_eq_true rfl) (by assumption) (by assumption) hm (fun r_ w_ h_ => ?_)
          obtain ⟨e2, gb, J2⟩ := h_
          rw [e2]
          clear e2
          obtain ⟨w2, rfl⟩ : ∃ w2, w2 = w_ := ⟨_, rfl⟩
          refine ⟨gb.1, ?_⟩
          refine r_icmp_self (tgt := 792) dL_law_474 (by decide) ?_
          exact nx (by omega) w2 J2
        · refine ⟨447, 479, by rw [hX15]; rfl, by decide, ?_⟩
          refine r_aload_n (pc2 := 480) dL_law_479 rfl rfl ?_
          refine r_callv_0 (pc2 := 483) dL_law_480 rfl rs_99_78 rfl (by decide) rfl (Nat.le_of_ble_eq_true rfl) (Nat.le_of_ble_eq_true rfl) (by assumption) (by assumption) (j_restore J) (fun r_ w_ h_ => ?_)
          obtain ⟨ga, x, e_, hm⟩ := h_
          rw [e_]
          clear e_
          obtain ⟨w1, rfl⟩ : ∃ w1, w1 = w_ := ⟨_, rfl⟩
          have s1 : w1.2.2 av_scr = .inl (3, Ln, .inl xs) := (ga.2 av_scr (Or.inr (by decide))).trans hsc
          have z1 : 33 < w1.1 := by rw [ga.1]; omega
          have z1w := (ga.2 33 (Or.inr (by decide))).trans z33w
          refine ⟨ga.1, ?_⟩
          refine r_aload_n (pc2 := 484) dL_law_483 rfl rfl ?_
          refine r_callv_0 (pc2 := 487) dL_law_484 rfl rs_99_81 rfl (by decide) rfl (Nat.le_of_ble_eq_true rfl) (Nat.le_of_ble_eq_true rfl) (by assumption) (by assumption) hm (fun r_ w_ h_ => ?_)
          obtain ⟨e2, gb, J2⟩ := h_
          rw [e2]
          clear e2
          obtain ⟨w2, rfl⟩ : ∃ w2, w2 = w_ := ⟨_, rfl⟩
          refine ⟨gb.1, ?_⟩
          refine r_icmp_self (tgt := 792) dL_law_487 (by decide) ?_
          exact nx (by omega) w2 J2
        · refine ⟨460, 492, by rw [hX16]; rfl, by decide, ?_⟩
          refine r_aload_n (pc2 := 493) dL_law_492 rfl rfl ?_
          refine r_aload_n (pc2 := 494) dL_law_493 rfl rfl ?_
          refine r_iload_n (pc2 := 495) dL_law_494 rfl rfl ?_
          refine r_iconst (pc2 := 496) dL_law_495 rfl ?_
          refine r_iadd (pc2 := 497) dL_law_496 rfl ?_
          refine r_sald (pc2 := 498) dL_law_497 rfl rfl (by assumption) (by omega) (by omega) hL ?_
          refine r_aload_n (pc2 := 499) dL_law_498 rfl rfl ?_
          refine r_iload_n (pc2 := 500) dL_law_499 rfl rfl ?_
          refine r_iconst (pc2 := 501) dL_law_500 rfl ?_
          refine r_iadd (pc2 := 502) dL_law_501 rfl ?_
          refine r_sald (pc2 := 503) dL_law_502 rfl rfl (by assumption) (by omega) (by omega) hL ?_
          refine r_callv_2 (pc2 := 506) dL_law_503 rfl rs_99_82 rfl (by decide) rfl (Nat.le_of_ble_eq_true rfl) (Nat.le_of_ble_eq_true rfl) (by assumption) (by assumption) (j_colourOf J _ (iN_rg _) _ (iN_rg _)) (fun r_ w_ h_ => ?_)
          obtain ⟨ga, x, e_, hm⟩ := h_
          rw [e_]
          clear e_
          obtain ⟨w1, rfl⟩ : ∃ w1, w1 = w_ := ⟨_, rfl⟩
          have s1 : w1.2.2 av_scr = .inl (3, Ln, .inl xs) := (ga.2 av_scr (Or.inr (by decide))).trans hsc
          have z1 : 33 < w1.1 := by rw [ga.1]; omega
          have z1w := (ga.2 33 (Or.inr (by decide))).trans z33w
          refine ⟨ga.1, ?_⟩
          refine r_aload_n (pc2 := 507) dL_law_506 rfl rfl ?_
          refine r_aload_n (pc2 := 508) dL_law_507 rfl rfl ?_
          refine r_iload_n (pc2 := 509) dL_law_508 rfl rfl ?_
          refine r_iconst (pc2 := 510) dL_law_509 rfl ?_
          refine r_iadd (pc2 := 511) dL_law_510 rfl ?_
          refine r_sald (pc2 := 512) dL_law_511 rfl rfl (by assumption) (by omega) (by omega) hL ?_
          refine r_aload_n (pc2 := 513) dL_law_512 rfl rfl ?_
          refine r_iload_n (pc2 := 514) dL_law_513 rfl rfl ?_
          refine r_iconst (pc2 := 515) dL_law_514 rfl ?_
          refine r_iadd (pc2 := 516) dL_law_515 rfl ?_
          refine r_sald (pc2 := 517) dL_law_516 rfl rfl (by assumption) (by omega) (by omega) hL ?_
          refine r_callv_2 (pc2 := 520) dL_law_517 rfl rs_99_85 rfl (by decide) rfl (Nat.le_of_ble_eq_true rfl) (Nat.le_of_ble_eq_true rfl) (by assumption) (by assumption) hm (fun r_ w_ h_ => ?_)
          obtain ⟨e2, gb, J2⟩ := h_
          rw [e2]
          clear e2
          obtain ⟨w2, rfl⟩ : ∃ w2, w2 = w_ := ⟨_, rfl⟩
          refine ⟨gb.1, ?_⟩
          refine r_icmp_self (tgt := 792) dL_law_520 (by decide) ?_
          exact nx (by omega) w2 J2
        · refine ⟨493, 525, by rw [hX17]; rfl, by decide, ?_⟩
          refine r_aload_n (pc2 := 526) dL_law_525 rfl rfl ?_
          refine r_aload_n (pc2 := 527) dL_law_526 rfl rfl ?_
          refine r_iload_n (pc2 := 528) dL_law_527 rfl rfl ?_
          refine r_iconst (pc2 := 529) dL_law_528 rfl ?_
          refine r_iadd (pc2 := 530) dL_law_529 rfl ?_
          refine r_sald (pc2 := 531) dL_law_530 rfl rfl (by assumption) (by omega) (by omega) hL ?_
          refine r_callv_1 (pc2 := 534) dL_law_531 rfl rs_99_86 rfl (by decide) rfl (Nat.le_of_ble_eq_true rfl) (Nat.le_of_ble_eq_true rfl) (by assumption) (by assumption) (j_viewOf J _ (iN_rg _)) (fun r_ w_ h_ => ?_)
          obtain ⟨ga, x, e_, hm⟩ := h_
          rw [e_]
          clear e_
          obtain ⟨w1, rfl⟩ : ∃ w1, w1 = w_ := ⟨_, rfl⟩
          have s1 : w1.2.2 av_scr = .inl (3, Ln, .inl xs) := (ga.2 av_scr (Or.inr (by decide))).trans hsc
          have z1 : 33 < w1.1 := by rw [ga.1]; omega
          have z1w := (ga.2 33 (Or.inr (by decide))).trans z33w
          refine ⟨ga.1, ?_⟩
          refine r_aload_n (pc2 := 535) dL_law_534 rfl rfl ?_
          refine r_aload_n (pc2 := 536) dL_law_535 rfl rfl ?_
          refine r_iload_n (pc2 := 537) dL_law_536 rfl rfl ?_
          refine r_iconst (pc2 := 538) dL_law_537 rfl ?_
          refine r_iadd (pc2 := 539) dL_law_538 rfl ?_
          refine r_sald (pc2 := 540) dL_law_539 rfl rfl (by assumption) (by omega) (by omega) hL ?_
          refine r_callv_1 (pc2 := 543) dL_law_540 rfl rs_99_89 rfl (by decide) rfl (Nat.le_of_ble_eq_true rfl) (Nat.le_of_ble_eq_true rfl) (by assumption) (by assumption) hm (fun r_ w_ h_ => ?_)
          obtain ⟨e2, gb, J2⟩ := h_
          rw [e2]
          clear e2
          obtain ⟨w2, rfl⟩ : ∃ w2, w2 = w_ := ⟨_, rfl⟩
          refine ⟨gb.1, ?_⟩
          refine r_icmp_self (tgt := 792) dL_law_543 (by decide) ?_
          exact nx (by omega) w2 J2
        · refine ⟨516, 548, by rw [hX18]; rfl, by decide, ?_⟩
          refine r_aload_n (pc2 := 549) dL_law_548 rfl rfl ?_
          refine r_aload_n (pc2 := 550) dL_law_549 rfl rfl ?_
          refine r_iload_n (pc2 := 551) dL_law_550 rfl rfl ?_
          refine r_iconst (pc2 := 552) dL_law_551 rfl ?_
          refine r_iadd (pc2 := 553) dL_law_552 rfl ?_
          refine r_sald (pc2 := 554) dL_law_553 rfl rfl (by assumption) (by omega) (by omega) hL ?_
          refine r_aload_n (pc2 := 555) dL_law_554 rfl rfl ?_
          refine r_iload_n (pc2 := 556) dL_law_555 rfl rfl ?_
          refine r_iconst (pc2 := 557) dL_law_556 rfl ?_
          refine r_iadd (pc2 := 558) dL_law_557 rfl ?_
          refine r_sald (pc2 := 559) dL_law_558 rfl rfl (by assumption) (by omega) (by omega) hL ?_
          refine r_aload_n (pc2 := 560) dL_law_559 rfl rfl ?_
          refine r_iload_n (pc2 := 561) dL_law_560 rfl rfl ?_
          refine r_iconst (pc2 := 562) dL_law_561 rfl ?_
          refine r_iadd (pc2 := 563) dL_law_562 rfl ?_
          refine r_sald (pc2 := 564) dL_law_563 rfl rfl (by assumption) (by omega) (by omega) hL ?_
          refine r_callv_3 (pc2 := 567) dL_law_564 rfl rs_99_90 rfl (by decide) rfl (Nat.le_of_ble_eq_true rfl) (Nat.le_of_ble_eq_true rfl) (by assumption) (by assumption) (j_behind J _ (iN_rg _) _ (iN_rg _) _ (iN_rg _)) (fun r_ w_ h_ => ?_)
          obtain ⟨ga, x, e_, hm⟩ := h_
          rw [e_]
          clear e_
          obtain ⟨w1, rfl⟩ : ∃ w1, w1 = w_ := ⟨_, rfl⟩
          have s1 : w1.2.2 av_scr = .inl (3, Ln, .inl xs) := (ga.2 av_scr (Or.inr (by decide))).trans hsc
          have z1 : 33 < w1.1 := by rw [ga.1]; omega
          have z1w := (ga.2 33 (Or.inr (by decide))).trans z33w
          refine ⟨ga.1, ?_⟩
          refine r_aload_n (pc2 := 568) dL_law_567 rfl rfl ?_
          refine r_aload_n (pc2 := 569) dL_law_568 rfl rfl ?_
          refine r_iload_n (pc2 := 570) dL_law_569 rfl rfl ?_
          refine r_iconst (pc2 := 571) dL_law_570 rfl ?_
          refine r_iadd (pc2 := 572) dL_law_571 rfl ?_
          refine r_sald (pc2 := 573) dL_law_572 rfl rfl (by assumption) (by omega) (by omega) hL ?_
          refine r_aload_n (pc2 := 574) dL_law_573 rfl rfl ?_
          refine r_iload_n (pc2 := 575) dL_law_574 rfl rfl ?_
          refine r_iconst (pc2 := 576) dL_law_575 rfl ?_
          refine r_iadd (pc2 := 577) dL_law_576 rfl ?_
          refine r_sald (pc2 := 578) dL_law_577 rfl rfl (by assumption) (by omega) (by omega) hL ?_
          refine r_aload_n (pc2 := 579) dL_law_578 rfl rfl ?_
          refine r_iload_n (pc2 := 580) dL_law_579 rfl rfl ?_
          refine r_iconst (pc2 := 581) dL_law_580 rfl ?_
          refine r_iadd (pc2 := 582) dL_law_581 rfl ?_
          refine r_sald (pc2 := 583) dL_law_582 rfl rfl (by assumption) (by omega) (by omega) hL ?_
          refine r_callv_3 (pc2 := 586) dL_law_583 rfl rs_99_93 rfl (by decide) rfl (Nat.le_of_ble_eq_true rfl) (Nat.le_of_ble_eq_true rfl) (by assumption) (by assumption) hm (fun r_ w_ h_ => ?_)
          obtain ⟨e2, gb, J2⟩ := h_
          rw [e2]
          clear e2
          obtain ⟨w2, rfl⟩ : ∃ w2, w2 = w_ := ⟨_, rfl⟩
          refine ⟨gb.1, ?_⟩
          refine r_icmp_self (tgt := 792) dL_law_586 (by decide) ?_
          exact nx (by omega) w2 J2
        · refine ⟨559, 591, by rw [hX19]; rfl, by decide, ?_⟩
          refine r_aload_n (pc2 := 592) dL_law_591 rfl rfl ?_
          refine r_aload_n (pc2 := 593) dL_law_592 rfl rfl ?_
          refine r_iload_n (pc2 := 594) dL_law_593 rfl rfl ?_
          refine r_iconst (pc2 := 595) dL_law_594 rfl ?_
          refine r_iadd (pc2 := 596) dL_law_595 rfl ?_
          refine r_sald (pc2 := 597) dL_law_596 rfl rfl (by assumption) (by omega) (by omega) hL ?_
          refine r_aload_n (pc2 := 598) dL_law_597 rfl rfl ?_
          refine r_iload_n (pc2 := 599) dL_law_598 rfl rfl ?_
          refine r_iconst (pc2 := 600) dL_law_599 rfl ?_
          refine r_iadd (pc2 := 601) dL_law_600 rfl ?_
          refine r_sald (pc2 := 602) dL_law_601 rfl rfl (by assumption) (by omega) (by omega) hL ?_
          refine r_aload_n (pc2 := 603) dL_law_602 rfl rfl ?_
          refine r_iload_n (pc2 := 604) dL_law_603 rfl rfl ?_
          refine r_iconst (pc2 := 605) dL_law_604 rfl ?_
          refine r_iadd (pc2 := 606) dL_law_605 rfl ?_
          refine r_sald (pc2 := 607) dL_law_606 rfl rfl (by assumption) (by omega) (by omega) hL ?_
          refine r_callv_3 (pc2 := 610) dL_law_607 rfl rs_99_94 rfl (by decide) rfl (Nat.le_of_ble_eq_true rfl) (Nat.le_of_ble_eq_true rfl) (by assumption) (by assumption) (j_seen J _ (iN_rg _) _ (iN_rg _) _ (iN_rg _)) (fun r_ w_ h_ => ?_)
          obtain ⟨ga, x, e_, hm⟩ := h_
          rw [e_]
          clear e_
          obtain ⟨w1, rfl⟩ : ∃ w1, w1 = w_ := ⟨_, rfl⟩
          have s1 : w1.2.2 av_scr = .inl (3, Ln, .inl xs) := (ga.2 av_scr (Or.inr (by decide))).trans hsc
          have z1 : 33 < w1.1 := by rw [ga.1]; omega
          have z1w := (ga.2 33 (Or.inr (by decide))).trans z33w
          refine ⟨ga.1, ?_⟩
          refine r_aload_n (pc2 := 611) dL_law_610 rfl rfl ?_
          refine r_aload_n (pc2 := 612) dL_law_611 rfl rfl ?_
          refine r_iload_n (pc2 := 613) dL_law_612 rfl rfl ?_
          refine r_iconst (pc2 := 614) dL_law_613 rfl ?_
          refine r_iadd (pc2 := 615) dL_law_614 rfl ?_
          refine r_sald (pc2 := 616) dL_law_615 rfl rfl (by assumption) (by omega) (by omega) hL ?_
          refine r_aload_n (pc2 := 617) dL_law_616 rfl rfl ?_
          refine r_iload_n (pc2 := 618) dL_law_617 rfl rfl ?_
          refine r_iconst (pc2 := 619) dL_law_618 rfl ?_
          refine r_iadd (pc2 := 620) dL_law_619 rfl ?_
          refine r_sald (pc2 := 621) dL_law_620 rfl rfl (by assumption) (by omega) (by omega) hL ?_
          refine r_aload_n (pc2 := 622) dL_law_621 rfl rfl ?_
          refine r_iload_n (pc2 := 623) dL_law_622 rfl rfl ?_
          refine r_iconst (pc2 := 624) dL_law_623 rfl ?_
          refine r_iadd (pc2 := 625) dL_law_624 rfl ?_
          refine r_sald (pc2 := 626) dL_law_625 rfl rfl (by assumption) (by omega) (by omega) hL ?_
          refine r_callv_3 (pc2 := 629) dL_law_626 rfl rs_99_97 rfl (by decide) rfl (Nat.le_of_ble_eq_true rfl) (Nat.le_of_ble_eq_true rfl) (by assumption) (by assumption) hm (fun r_ w_ h_ => ?_)
          obtain ⟨e2, gb, J2⟩ := h_
          rw [e2]
          clear e2
          obtain ⟨w2, rfl⟩ : ∃ w2, w2 = w_ := ⟨_, rfl⟩
          refine ⟨gb.1, ?_⟩
          refine r_icmp_self (tgt := 792) dL_law_629 (by decide) ?_
          exact nx (by omega) w2 J2
        · refine ⟨602, 634, by rw [hX20]; rfl, by decide, ?_⟩
          refine r_aload_n (pc2 := 635) dL_law_634 rfl rfl ?_
          refine r_aload_n (pc2 := 636) dL_law_635 rfl rfl ?_
          refine r_iload_n (pc2 := 637) dL_law_636 rfl rfl ?_
          refine r_iconst (pc2 := 638) dL_law_637 rfl ?_
          refine r_iadd (pc2 := 639) dL_law_638 rfl ?_
          refine r_sald (pc2 := 640) dL_law_639 rfl rfl (by assumption) (by omega) (by omega) hL ?_
          refine r_aload_n (pc2 := 641) dL_law_640 rfl rfl ?_
          refine r_iload_n (pc2 := 642) dL_law_641 rfl rfl ?_
          refine r_iconst (pc2 := 643) dL_law_642 rfl ?_
          refine r_iadd (pc2 := 644) dL_law_643 rfl ?_
          refine r_sald (pc2 := 645) dL_law_644 rfl rfl (by assumption) (by omega) (by omega) hL ?_
          refine r_callv_2 (pc2 := 648) dL_law_645 rfl rs_99_98 rfl (by decide) rfl (Nat.le_of_ble_eq_true rfl) (Nat.le_of_ble_eq_true rfl) (by assumption) (by assumption) (j_at J _ (iN_rg _) _ (iN_rg _)) (fun r_ w_ h_ => ?_)
          obtain ⟨ga, x, e_, hm⟩ := h_
          rw [e_]
          clear e_
          obtain ⟨w1, rfl⟩ : ∃ w1, w1 = w_ := ⟨_, rfl⟩
          have s1 : w1.2.2 av_scr = .inl (3, Ln, .inl xs) := (ga.2 av_scr (Or.inr (by decide))).trans hsc
          have z1 : 33 < w1.1 := by rw [ga.1]; omega
          have z1w := (ga.2 33 (Or.inr (by decide))).trans z33w
          refine ⟨ga.1, ?_⟩
          refine r_aload_n (pc2 := 649) dL_law_648 rfl rfl ?_
          refine r_aload_n (pc2 := 650) dL_law_649 rfl rfl ?_
          refine r_iload_n (pc2 := 651) dL_law_650 rfl rfl ?_
          refine r_iconst (pc2 := 652) dL_law_651 rfl ?_
          refine r_iadd (pc2 := 653) dL_law_652 rfl ?_
          refine r_sald (pc2 := 654) dL_law_653 rfl rfl (by assumption) (by omega) (by omega) hL ?_
          refine r_aload_n (pc2 := 655) dL_law_654 rfl rfl ?_
          refine r_iload_n (pc2 := 656) dL_law_655 rfl rfl ?_
          refine r_iconst (pc2 := 657) dL_law_656 rfl ?_
          refine r_iadd (pc2 := 658) dL_law_657 rfl ?_
          refine r_sald (pc2 := 659) dL_law_658 rfl rfl (by assumption) (by omega) (by omega) hL ?_
          refine r_callv_2 (pc2 := 662) dL_law_659 rfl rs_99_101 rfl (by decide) rfl (Nat.le_of_ble_eq_true rfl) (Nat.le_of_ble_eq_true rfl) (by assumption) (by assumption) hm (fun r_ w_ h_ => ?_)
          obtain ⟨e2, gb, J2⟩ := h_
          rw [e2]
          clear e2
          obtain ⟨w2, rfl⟩ : ∃ w2, w2 = w_ := ⟨_, rfl⟩
          refine ⟨gb.1, ?_⟩
          refine r_icmp_self (tgt := 792) dL_law_662 (by decide) ?_
          exact nx (by omega) w2 J2
        · refine ⟨635, 667, by rw [hX21]; rfl, by decide, ?_⟩
          refine r_aload_n (pc2 := 668) dL_law_667 rfl rfl ?_
          refine r_aload_n (pc2 := 669) dL_law_668 rfl rfl ?_
          refine r_iload_n (pc2 := 670) dL_law_669 rfl rfl ?_
          refine r_iconst (pc2 := 671) dL_law_670 rfl ?_
          refine r_iadd (pc2 := 672) dL_law_671 rfl ?_
          refine r_sald (pc2 := 673) dL_law_672 rfl rfl (by assumption) (by omega) (by omega) hL ?_
          refine r_aload_n (pc2 := 674) dL_law_673 rfl rfl ?_
          refine r_iload_n (pc2 := 675) dL_law_674 rfl rfl ?_
          refine r_iconst (pc2 := 676) dL_law_675 rfl ?_
          refine r_iadd (pc2 := 677) dL_law_676 rfl ?_
          refine r_sald (pc2 := 678) dL_law_677 rfl rfl (by assumption) (by omega) (by omega) hL ?_
          refine r_callv_2 (pc2 := 681) dL_law_678 rfl rs_99_102 rfl (by decide) rfl (Nat.le_of_ble_eq_true rfl) (Nat.le_of_ble_eq_true rfl) (by assumption) (by assumption) (j_view J _ (iN_rg _) _ (iN_rg _)) (fun r_ w_ h_ => ?_)
          obtain ⟨ga, x, e_, hm⟩ := h_
          rw [e_]
          clear e_
          obtain ⟨w1, rfl⟩ : ∃ w1, w1 = w_ := ⟨_, rfl⟩
          have s1 : w1.2.2 av_scr = .inl (3, Ln, .inl xs) := (ga.2 av_scr (Or.inr (by decide))).trans hsc
          have z1 : 33 < w1.1 := by rw [ga.1]; omega
          have z1w := (ga.2 33 (Or.inr (by decide))).trans z33w
          refine ⟨ga.1, ?_⟩
          refine r_aload_n (pc2 := 682) dL_law_681 rfl rfl ?_
          refine r_aload_n (pc2 := 683) dL_law_682 rfl rfl ?_
          refine r_iload_n (pc2 := 684) dL_law_683 rfl rfl ?_
          refine r_iconst (pc2 := 685) dL_law_684 rfl ?_
          refine r_iadd (pc2 := 686) dL_law_685 rfl ?_
          refine r_sald (pc2 := 687) dL_law_686 rfl rfl (by assumption) (by omega) (by omega) hL ?_
          refine r_aload_n (pc2 := 688) dL_law_687 rfl rfl ?_
          refine r_iload_n (pc2 := 689) dL_law_688 rfl rfl ?_
          refine r_iconst (pc2 := 690) dL_law_689 rfl ?_
          refine r_iadd (pc2 := 691) dL_law_690 rfl ?_
          refine r_sald (pc2 := 692) dL_law_691 rfl rfl (by assumption) (by omega) (by omega) hL ?_
          refine r_callv_2 (pc2 := 695) dL_law_692 rfl rs_99_105 rfl (by decide) rfl (Nat.le_of_ble_eq_true rfl) (Nat.le_of_ble_eq_true rfl) (by assumption) (by assumption) hm (fun r_ w_ h_ => ?_)
          obtain ⟨e2, gb, J2⟩ := h_
          rw [e2]
          clear e2
          obtain ⟨w2, rfl⟩ : ∃ w2, w2 = w_ := ⟨_, rfl⟩
          refine ⟨gb.1, ?_⟩
          refine r_icmp_self (tgt := 792) dL_law_695 (by decide) ?_
          exact nx (by omega) w2 J2
        · refine ⟨668, 700, by rw [hX22]; rfl, by decide, ?_⟩
          refine r_aload_n (pc2 := 701) dL_law_700 rfl rfl ?_
          refine r_aload_n (pc2 := 702) dL_law_701 rfl rfl ?_
          refine r_iload_n (pc2 := 703) dL_law_702 rfl rfl ?_
          refine r_iconst (pc2 := 704) dL_law_703 rfl ?_
          refine r_iadd (pc2 := 705) dL_law_704 rfl ?_
          refine r_sald (pc2 := 706) dL_law_705 rfl rfl (by assumption) (by omega) (by omega) hL ?_
          refine r_callv_1 (pc2 := 709) dL_law_706 rfl rs_99_106 rfl (by decide) rfl (Nat.le_of_ble_eq_true rfl) (Nat.le_of_ble_eq_true rfl) (by assumption) (by assumption) (j_bestOrder J _ (iN_rg _)) (fun r_ w_ h_ => ?_)
          obtain ⟨ga, x, e_, hm⟩ := h_
          rw [e_]
          clear e_
          obtain ⟨w1, rfl⟩ : ∃ w1, w1 = w_ := ⟨_, rfl⟩
          have s1 : w1.2.2 av_scr = .inl (3, Ln, .inl xs) := (ga.2 av_scr (Or.inr (by decide))).trans hsc
          have z1 : 33 < w1.1 := by rw [ga.1]; omega
          have z1w := (ga.2 33 (Or.inr (by decide))).trans z33w
          refine ⟨ga.1, ?_⟩
          refine r_aload_n (pc2 := 710) dL_law_709 rfl rfl ?_
          refine r_aload_n (pc2 := 711) dL_law_710 rfl rfl ?_
          refine r_iload_n (pc2 := 712) dL_law_711 rfl rfl ?_
          refine r_iconst (pc2 := 713) dL_law_712 rfl ?_
          refine r_iadd (pc2 := 714) dL_law_713 rfl ?_
          refine r_sald (pc2 := 715) dL_law_714 rfl rfl (by assumption) (by omega) (by omega) hL ?_
          refine r_callv_1 (pc2 := 718) dL_law_715 rfl rs_99_109 rfl (by decide) rfl (Nat.le_of_ble_eq_true rfl) (Nat.le_of_ble_eq_true rfl) (by assumption) (by assumption) hm (fun r_ w_ h_ => ?_)
          obtain ⟨e2, gb, J2⟩ := h_
          rw [e2]
          clear e2
          obtain ⟨w2, rfl⟩ : ∃ w2, w2 = w_ := ⟨_, rfl⟩
          refine ⟨gb.1, ?_⟩
          refine r_icmp_self (tgt := 792) dL_law_718 (by decide) ?_
          exact nx (by omega) w2 J2
        · refine ⟨691, 723, by rw [hX23]; rfl, by decide, ?_⟩
          refine r_aload_n (pc2 := 724) dL_law_723 rfl rfl ?_
          refine r_callv_0 (pc2 := 727) dL_law_724 rfl rs_99_110 rfl (by decide) rfl (Nat.le_of_ble_eq_true rfl) (Nat.le_of_ble_eq_true rfl) (by assumption) (by assumption) (j_bestShift J) (fun r_ w_ h_ => ?_)
          obtain ⟨ga, x, e_, hm⟩ := h_
          rw [e_]
          clear e_
          obtain ⟨w1, rfl⟩ : ∃ w1, w1 = w_ := ⟨_, rfl⟩
          have s1 : w1.2.2 av_scr = .inl (3, Ln, .inl xs) := (ga.2 av_scr (Or.inr (by decide))).trans hsc
          have z1 : 33 < w1.1 := by rw [ga.1]; omega
          have z1w := (ga.2 33 (Or.inr (by decide))).trans z33w
          refine ⟨ga.1, ?_⟩
          refine r_aload_n (pc2 := 728) dL_law_727 rfl rfl ?_
          refine r_callv_0 (pc2 := 731) dL_law_728 rfl rs_99_113 rfl (by decide) rfl (Nat.le_of_ble_eq_true rfl) (Nat.le_of_ble_eq_true rfl) (by assumption) (by assumption) hm (fun r_ w_ h_ => ?_)
          obtain ⟨e2, gb, J2⟩ := h_
          rw [e2]
          clear e2
          obtain ⟨w2, rfl⟩ : ∃ w2, w2 = w_ := ⟨_, rfl⟩
          refine ⟨gb.1, ?_⟩
          refine r_icmp_self (tgt := 792) dL_law_731 (by decide) ?_
          exact nx (by omega) w2 J2
        · refine ⟨704, 736, by rw [hX24]; rfl, by decide, ?_⟩
          refine r_aload_n (pc2 := 737) dL_law_736 rfl rfl ?_
          refine r_aload_n (pc2 := 738) dL_law_737 rfl rfl ?_
          refine r_iload_n (pc2 := 739) dL_law_738 rfl rfl ?_
          refine r_iconst (pc2 := 740) dL_law_739 rfl ?_
          refine r_iadd (pc2 := 741) dL_law_740 rfl ?_
          refine r_sald (pc2 := 742) dL_law_741 rfl rfl (by assumption) (by omega) (by omega) hL ?_
          refine r_aload_n (pc2 := 743) dL_law_742 rfl rfl ?_
          refine r_iload_n (pc2 := 744) dL_law_743 rfl rfl ?_
          refine r_iconst (pc2 := 745) dL_law_744 rfl ?_
          refine r_iadd (pc2 := 746) dL_law_745 rfl ?_
          refine r_sald (pc2 := 747) dL_law_746 rfl rfl (by assumption) (by omega) (by omega) hL ?_
          refine r_callv_2 (pc2 := 750) dL_law_747 rfl rs_99_114 rfl (by decide) rfl (Nat.le_of_ble_eq_true rfl) (Nat.le_of_ble_eq_true rfl) (by assumption) (by assumption) (j_ifSlice J _ (iN_rg _) _ (iN_rg _)) (fun r_ w_ h_ => ?_)
          obtain ⟨ga, x, e_, hm⟩ := h_
          rw [e_]
          clear e_
          obtain ⟨w1, rfl⟩ : ∃ w1, w1 = w_ := ⟨_, rfl⟩
          have s1 : w1.2.2 av_scr = .inl (3, Ln, .inl xs) := (ga.2 av_scr (Or.inr (by decide))).trans hsc
          have z1 : 33 < w1.1 := by rw [ga.1]; omega
          have z1w := (ga.2 33 (Or.inr (by decide))).trans z33w
          refine ⟨ga.1, ?_⟩
          refine r_aload_n (pc2 := 751) dL_law_750 rfl rfl ?_
          refine r_aload_n (pc2 := 752) dL_law_751 rfl rfl ?_
          refine r_iload_n (pc2 := 753) dL_law_752 rfl rfl ?_
          refine r_iconst (pc2 := 754) dL_law_753 rfl ?_
          refine r_iadd (pc2 := 755) dL_law_754 rfl ?_
          refine r_sald (pc2 := 756) dL_law_755 rfl rfl (by assumption) (by omega) (by omega) hL ?_
          refine r_aload_n (pc2 := 757) dL_law_756 rfl rfl ?_
          refine r_iload_n (pc2 := 758) dL_law_757 rfl rfl ?_
          refine r_iconst (pc2 := 759) dL_law_758 rfl ?_
          refine r_iadd (pc2 := 760) dL_law_759 rfl ?_
          refine r_sald (pc2 := 761) dL_law_760 rfl rfl (by assumption) (by omega) (by omega) hL ?_
          refine r_callv_2 (pc2 := 764) dL_law_761 rfl rs_99_117 rfl (by decide) rfl (Nat.le_of_ble_eq_true rfl) (Nat.le_of_ble_eq_true rfl) (by assumption) (by assumption) hm (fun r_ w_ h_ => ?_)
          obtain ⟨e2, gb, J2⟩ := h_
          rw [e2]
          clear e2
          obtain ⟨w2, rfl⟩ : ∃ w2, w2 = w_ := ⟨_, rfl⟩
          refine ⟨gb.1, ?_⟩
          refine r_icmp_self (tgt := 792) dL_law_764 (by decide) ?_
          exact nx (by omega) w2 J2
        · refine ⟨737, 769, by rw [hX25]; rfl, by decide, ?_⟩
          refine r_aload_n (pc2 := 770) dL_law_769 rfl rfl ?_
          refine r_aload_n (pc2 := 771) dL_law_770 rfl rfl ?_
          refine r_iload_n (pc2 := 772) dL_law_771 rfl rfl ?_
          refine r_iconst (pc2 := 773) dL_law_772 rfl ?_
          refine r_iadd (pc2 := 774) dL_law_773 rfl ?_
          refine r_sald (pc2 := 775) dL_law_774 rfl rfl (by assumption) (by omega) (by omega) hL ?_
          refine r_callv_1 (pc2 := 778) dL_law_775 rfl rs_99_118 rfl (by decide) rfl (Nat.le_of_ble_eq_true rfl) (Nat.le_of_ble_eq_true rfl) (by assumption) (by assumption) (j_count J _ (iN_rg _)) (fun r_ w_ h_ => ?_)
          obtain ⟨ga, x, e_, hm⟩ := h_
          rw [e_]
          clear e_
          obtain ⟨w1, rfl⟩ : ∃ w1, w1 = w_ := ⟨_, rfl⟩
          have s1 : w1.2.2 av_scr = .inl (3, Ln, .inl xs) := (ga.2 av_scr (Or.inr (by decide))).trans hsc
          have z1 : 33 < w1.1 := by rw [ga.1]; omega
          have z1w := (ga.2 33 (Or.inr (by decide))).trans z33w
          refine ⟨ga.1, ?_⟩
          refine r_aload_n (pc2 := 779) dL_law_778 rfl rfl ?_
          refine r_aload_n (pc2 := 780) dL_law_779 rfl rfl ?_
          refine r_iload_n (pc2 := 781) dL_law_780 rfl rfl ?_
          refine r_iconst (pc2 := 782) dL_law_781 rfl ?_
          refine r_iadd (pc2 := 783) dL_law_782 rfl ?_
          refine r_sald (pc2 := 784) dL_law_783 rfl rfl (by assumption) (by omega) (by omega) hL ?_
          refine r_callv_1 (pc2 := 787) dL_law_784 rfl rs_99_121 rfl (by decide) rfl (Nat.le_of_ble_eq_true rfl) (Nat.le_of_ble_eq_true rfl) (by assumption) (by assumption) hm (fun r_ w_ h_ => ?_)
          obtain ⟨e2, gb, J2⟩ := h_
          rw [e2]
          clear e2
          obtain ⟨w2, rfl⟩ : ∃ w2, w2 = w_ := ⟨_, rfl⟩
          refine ⟨gb.1, ?_⟩
          refine r_icmp_self (tgt := 792) dL_law_787 (by decide) ?_
          exact nx (by omega) w2 J2
