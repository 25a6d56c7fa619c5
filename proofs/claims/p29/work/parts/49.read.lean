/-! both texts are read -/
def Dg (x y k : Int) : Int := upZ (xorZ (xorZ (shrZ x (k.tmod 17)) (shrZ y (k.tmod 11))) (3 * k)) 10
theorem Dg_rg (x y k : Int) : 0 ≤ Dg x y k ∧ Dg x y k ≤ 9 := by
  have := up_rg (x := xorZ (xorZ (shrZ x (k.tmod 17)) (shrZ y (k.tmod 11))) (3 * k)) (n := 10) (by omega)
  unfold Dg
  omega
theorem l_dg (w : av_W) (x y k : Int) : fn ML_up [.int (iN (xorZ (xorZ (shrZ x (k.tmod 17)) (shrZ y (k.tmod 11))) (3 * k))), .int (iN 10)] w (some (.int (iN (Dg x y k)))) w := l_up w _ 10 (by omega)
def Dm (x y n : Int) : Int → Int := fun k => 9 - Dg x y (12 * (n - 1 - k / 12) + k % 12)
def Eg (y n : Int) : Int → Int := fun j => upZ (shrZ y (2 * j)) n
def Em (y n : Int) : Int → Int := fun j => n - 1 - Eg y n j
theorem l_eg (w : av_W) (y n j : Int) (hn : 2 ≤ n ∧ n ≤ 4) : fn ML_up [.int (iN (shrZ y (2 * j))), .int (iN n)] w (some (.int (iN (Eg y n j)))) w := l_up w _ n (by omega)
theorem Eg_rg {y n j : Int} (hn : 2 ≤ n ∧ n ≤ 4) : 0 ≤ Eg y n j ∧ Eg y n j < n := up_rg (by omega)

set_option maxHeartbeats 4000000 in
theorem l_isReadT {sc : av_E} {w : av_W} {v p v2 p2 sh ln pr gd co : Int} {c s c2 s2 : Nat → Int} {len len2 : Int} {t t2 : Nat → Int} (J : JJ sc w (v, p, sh, ln, pr, gd, co, c, s) (v2, p2, sh, ln, pr, gd, co, c2, s2) len len2 t t2) (x y : Int) : cl ML_isRead [.ref 0, .ref 33, .int (iN x), .int (iN y)] w (fun r' w' => r' = some (.int (iN 1)) ∧ JM sc w') := by
  have hu3 := up_rg (x := x) (n := 3) (by omega)
  have hu14 := up_rg (x := shrZ x 3) (n := 5) (by omega)
  obtain ⟨nv, hnv⟩ : ∃ nv : Int, nv = 2 + upZ x 3 := ⟨_, rfl⟩
  obtain ⟨pq, hpv⟩ : ∃ pq : Int, pq = 2 + upZ (shrZ x 3) 5 := ⟨_, rfl⟩
  have hnr : 2 ≤ nv ∧ nv ≤ 4 := by omega
  have hpq : 2 ≤ pq ∧ pq ≤ 6 := by omega
  have n_ := J.1
  obtain ⟨⟨z0, f0, z0w⟩, z33, f33, z33w⟩ := J.cells
  have hl0 := J.kv.2.2
  have hl1 := J.ku.2.2
  show rn ML_isRead 0 [some (.ref 0), some (.ref 33), some (.int (iN x)), some (.int (iN y)), none, none, none, none, none] [] w (fun r' w' => r' = some (.int (iN 1)) ∧ JM sc w')
  have lp2 : ∀ (n : Nat) (j : Int) (wk : av_W) (tk : Nat → Int) (uk : Nat → Int) (b8 : Option Value), (0 ≤ j ∧ j ≤ pq ∧ pq + 1 ≤ j + n) → (JJ sc wk (v, p, sh, ln, pr, gd, co, c, s) (v2, p2, sh, ln, pr, gd, co, c2, s2) (13 * nv + j) (13 * nv + j) tk uk) → (FT (Dg x y) (Eg y nv) nv tk j) → (FT (Dm x y nv) (Em y nv) nv uk j) → rn ML_isRead 220 [some (.ref 0), some (.ref 33), some (.int (iN x)), some (.int (iN y)), some (.int (iN nv)), some (.int (iN pq)), some (.int (iN 1)), some (.int (iN j)), b8] [] wk (fun r' w' => r' = some (.int (iN 1)) ∧ JM sc w') := by
    intro n
    induction n with
    | zero =>
      intro j wk tk uk b8 hk0 hk1 hk2 hk3
      exfalso
      omega
    | succ n ih =>
      intro j wk tk uk b8 hk0 hk1 hk2 hk3
      have J := hk1
      have n_ := J.1
      obtain ⟨⟨z0, f0, z0w⟩, z33, f33, z33w⟩ := J.cells
      refine r_iload (pc2 := 222) dL_isRead_220 rfl rfl ?_
      refine r_iload (pc2 := 224) dL_isRead_222 rfl rfl ?_
      refine r_icmp_ge (pc2 := 227) (tgt := 286) dL_isRead_224 rfl (by decide) (by omega) (by omega) (fun h224 => ?_) (fun h224 => ?_)
      · have hjq : j = pq := by omega
        rw [hjq] at J hk2 hk3
        have hD1 : ∀ k : Int, 0 ≤ k → k < 12 * nv → 0 ≤ Dg x y k ∧ Dg x y k ≤ 9 := fun k _ _ => Dg_rg x y k
        have hD2 : ∀ k : Int, 0 ≤ k → k < 12 * nv → 0 ≤ Dm x y nv k ∧ Dm x y nv k ≤ 9 := fun k _ _ => by have := Dg_rg x y (12 * (nv - 1 - k / 12) + k % 12); unfold Dm; omega
        have hE1 : ∀ j : Int, 0 ≤ j → j < pq → 0 ≤ Eg y nv j ∧ Eg y nv j < nv := fun j _ _ => Eg_rg hnr
        have hE2 : ∀ j : Int, 0 ≤ j → j < pq → 0 ≤ Em y nv j ∧ Em y nv j < nv := fun j _ _ => by have := Eg_rg (y := y) (j := j) hnr; unfold Em; omega
        have hg1 := FT_good hk2 hnr hpq hD1 hE1
        have hg2 := FT_good hk3 hnr hpq hD2 hE2
        obtain ⟨c3, s3, e3, m3, m4⟩ := FT_rd (v := v) (p := p) (sh := sh) (ln := ln) (pr := pr) (gd := gd) (co := co) (c := c) (s := s) hk2 hnr hpq hD1 hE1
        obtain ⟨c4, s4, e4, m5, m6⟩ := FT_rd (v := v2) (p := p2) (sh := sh) (ln := ln) (pr := pr) (gd := gd) (co := co) (c := c2) (s := s2) hk3 hnr hpq hD2 hE2
        have r1 : (rdV (v, p, sh, ln, pr, gd, co, c, s) tk (13 * nv + pq)).1 = nv := by rw [e3]
        have r2 : o_count (rdV (v, p, sh, ln, pr, gd, co, c, s) tk (13 * nv + pq)) 0 0 1 = pq := by rw [e3]; rfl
        have r3 : (rdV (v2, p2, sh, ln, pr, gd, co, c2, s2) uk (13 * nv + pq)).1 = nv := by rw [e4]
        refine r_iload (pc2 := 288) dL_isRead_286 rfl rfl ?_
        refine r_if_eq (pc2 := 291) (tgt := 323) dL_isRead_288 rfl (by decide) (by omega) (fun h288 => ?_) (fun h288 => ?_)
        · exfalso
          omega
        · refine r_aload_n (pc2 := 292) dL_isRead_291 rfl rfl ?_
          refine r_callv_0 (pc2 := 295) dL_isRead_292 rfl rs_99_39 rfl (by decide) rfl (Nat.le_of_ble_eq_true rfl) (Nat.le_of_ble_eq_true rfl) (by assumption) (by assumption) (ox_read J hg1) (fun r_ w_ h_ => ?_)
          obtain ⟨e_, J⟩ := h_
          rw [e_, r1]
          clear e_ r_
          have n_ := J.1
          obtain ⟨⟨z0, f0, z0w⟩, z33, f33, z33w⟩ := J.cells
          refine ⟨by omega, ?_⟩
          refine r_iload (pc2 := 297) dL_isRead_295 rfl rfl ?_
          refine r_icmp_ne (pc2 := 300) (tgt := 323) dL_isRead_297 rfl (by decide) (by omega) (by omega) (fun h297 => ?_) (fun h297 => ?_)
          · exfalso
            omega
          · refine r_aload_n (pc2 := 301) dL_isRead_300 rfl rfl ?_
            refine r_callv_0 (pc2 := 304) dL_isRead_301 rfl rs_99_39 rfl (by decide) rfl (Nat.le_of_ble_eq_true rfl) (Nat.le_of_ble_eq_true rfl) (by assumption) (by assumption) (px_read J hg2) (fun r_ w_ h_ => ?_)
            obtain ⟨e_, J⟩ := h_
            rw [e_, r3]
            clear e_ r_
            have n_ := J.1
            obtain ⟨⟨z0, f0, z0w⟩, z33, f33, z33w⟩ := J.cells
            refine ⟨by omega, ?_⟩
            refine r_iload (pc2 := 306) dL_isRead_304 rfl rfl ?_
            refine r_icmp_ne (pc2 := 309) (tgt := 323) dL_isRead_306 rfl (by decide) (by omega) (by omega) (fun h306 => ?_) (fun h306 => ?_)
            · exfalso
              omega
            · refine r_aload_n (pc2 := 310) dL_isRead_309 rfl rfl ?_
              refine r_iconst (pc2 := 311) dL_isRead_310 rfl ?_
              refine r_callv_1 (pc2 := 314) dL_isRead_311 rfl rs_99_9 rfl (by decide) rfl (Nat.le_of_ble_eq_true rfl) (Nat.le_of_ble_eq_true rfl) (by assumption) (by assumption) (ot_count J 1 (by omega)) (fun r_ w_ h_ => ?_)
              obtain ⟨e_, J⟩ := h_
              rw [e_, r2]
              clear e_ r_
              have n_ := J.1
              obtain ⟨⟨z0, f0, z0w⟩, z33, f33, z33w⟩ := J.cells
              refine ⟨by omega, ?_⟩
              refine r_iload (pc2 := 316) dL_isRead_314 rfl rfl ?_
              refine r_icmp_ne (pc2 := 319) (tgt := 323) dL_isRead_316 rfl (by decide) (by omega) (by omega) (fun h316 => ?_) (fun h316 => ?_)
              · exfalso
                omega
              · refine r_iconst (pc2 := 320) dL_isRead_319 rfl ?_
                refine r_goto (tgt := 324) dL_isRead_320 (by decide) ?_
                refine r_retb dL_isRead_324 rfl (by first | exact Or.inl rfl | exact Or.inr rfl | exact bz_01) ?_
                rw [e3, e4] at J
                refine ⟨rfl, _, _, _, _, _, _, J, ⟨rfl, rfl, rfl, rfl, rfl, rfl, rfl⟩, fun a b ha hb => ?_, fun i hi => ?_⟩
                · rw [m3 a b ha hb, m5 (nv - 1 - a) b (by omega) hb]
                  show 9 - Dg x y (12 * (nv - 1 - ((nv - 1 - a) * 12 + b) / 12) + ((nv - 1 - a) * 12 + b) % 12) = 9 - Dg x y (a * 12 + b)
                  rw [show 12 * (nv - 1 - ((nv - 1 - a) * 12 + b) / 12) + ((nv - 1 - a) * 12 + b) % 12 = a * 12 + b by omega]
                · rw [m4 i hi, m6 i hi]
                  rfl
      · refine r_iload_n (pc2 := 228) dL_isRead_227 rfl rfl ?_
        refine r_iconst (pc2 := 229) dL_isRead_228 rfl ?_
        refine r_iload (pc2 := 231) dL_isRead_229 rfl rfl ?_
        refine r_imul (pc2 := 232) dL_isRead_231 rfl ?_
        refine r_zshr (pc2 := 233) dL_isRead_232 rfl ?_
        refine r_iload (pc2 := 235) dL_isRead_233 rfl rfl ?_
        refine r_calls_2 (pc2 := 238) dL_isRead_235 rfl rs_99_28 rfl (by decide) rfl (Nat.le_of_ble_eq_true rfl) (Nat.le_of_ble_eq_true rfl) (l_eg _ y nv j hnr) (fun r_ w_ h_ => ?_)
        rw [h_.1, h_.2]
        clear h_ w_ r_
        refine ⟨rfl, ?_⟩
        have he := Eg_rg (y := y) (j := j) hnr
        refine r_ist_8 (pc2 := 240) dL_isRead_238 rfl rfl ?_
        refine r_iload (pc2 := 242) dL_isRead_240 rfl rfl ?_
        refine r_if_eq (pc2 := 245) (tgt := 277) dL_isRead_242 rfl (by decide) (by omega) (fun h242 => ?_) (fun h242 => ?_)
        · exfalso
          omega
        · refine r_aload_n (pc2 := 246) dL_isRead_245 rfl rfl ?_
          refine r_bipush (pc2 := 248) dL_isRead_246 rfl (by decide) ?_
          refine r_iload (pc2 := 250) dL_isRead_248 rfl rfl ?_
          refine r_iadd (pc2 := 251) dL_isRead_250 rfl ?_
          refine r_zi2c (pc2 := 252) dL_isRead_251 rfl (by omega) ?_
          refine r_callv_1 (pc2 := 255) dL_isRead_252 rfl rs_99_35 rfl (by decide) rfl (Nat.le_of_ble_eq_true rfl) (Nat.le_of_ble_eq_true rfl) (by assumption) (by assumption) (ox_type J (48 + Eg y nv j) (by omega) (by omega)) (fun r_ w_ h_ => ?_)
          obtain ⟨e_, J⟩ := h_
          rw [e_]
          clear e_ r_
          have n_ := J.1
          obtain ⟨⟨z0, f0, z0w⟩, z33, f33, z33w⟩ := J.cells
          refine ⟨by omega, ?_⟩
          refine r_aload_n (pc2 := 256) dL_isRead_255 rfl rfl ?_
          refine r_bipush (pc2 := 258) dL_isRead_256 rfl (by decide) ?_
          refine r_iload (pc2 := 260) dL_isRead_258 rfl rfl ?_
          refine r_iadd (pc2 := 261) dL_isRead_260 rfl ?_
          refine r_iconst (pc2 := 262) dL_isRead_261 rfl ?_
          refine r_isub (pc2 := 263) dL_isRead_262 rfl ?_
          refine r_iload (pc2 := 265) dL_isRead_263 rfl rfl ?_
          refine r_isub (pc2 := 266) dL_isRead_265 rfl ?_
          refine r_zi2c (pc2 := 267) dL_isRead_266 rfl (by omega) ?_
          refine r_callv_1 (pc2 := 270) dL_isRead_267 rfl rs_99_35 rfl (by decide) rfl (Nat.le_of_ble_eq_true rfl) (Nat.le_of_ble_eq_true rfl) (by assumption) (by assumption) (px_type J (48 + nv - 1 - Eg y nv j) (by omega) (by omega)) (fun r_ w_ h_ => ?_)
          obtain ⟨e_, J⟩ := h_
          rw [e_]
          clear e_ r_
          have n_ := J.1
          obtain ⟨⟨z0, f0, z0w⟩, z33, f33, z33w⟩ := J.cells
          refine ⟨by omega, ?_⟩
          refine r_icmp_ne (pc2 := 273) (tgt := 277) dL_isRead_270 rfl (by decide) (by omega) (by omega) (fun h270 => ?_) (fun h270 => ?_)
          · exfalso
            omega
          · refine r_iconst (pc2 := 274) dL_isRead_273 rfl ?_
            refine r_goto (tgt := 278) dL_isRead_274 (by decide) ?_
            refine r_ist_6 (pc2 := 280) dL_isRead_278 rfl rfl ?_
            refine r_iinc_7 (pc2 := 283) dL_isRead_280 rfl rfl ?_
            refine r_goto (tgt := 220) dL_isRead_283 (by decide) ?_
            have f1 := FT_add hk2 hnr (by omega) (show 48 + Eg y nv j = 48 + Eg y nv j from rfl)
            have f2 := FT_add hk3 hnr (by omega) (show 48 + nv - 1 - Eg y nv j = 48 + Em y nv j by unfold Em; omega)
            rw [show 13 * nv + j + 1 = 13 * nv + (j + 1) by omega] at J
            exact ih (j + 1) _ _ _ _ (by omega) J f1 f2
  have lp1 : ∀ (n : Nat) (k : Int) (wk : av_W) (tk : Nat → Int) (uk : Nat → Int) (b8 : Option Value), (0 ≤ k ∧ k ≤ 12 * nv ∧ 12 * nv + 1 ≤ k + n) → (JJ sc wk (v, p, sh, ln, pr, gd, co, c, s) (v2, p2, sh, ln, pr, gd, co, c2, s2) (lenK k) (lenK k) tk uk) → (CT (Dg x y) tk (lenK k)) → (CT (Dm x y nv) uk (lenK k)) → rn ML_isRead 44 [some (.ref 0), some (.ref 33), some (.int (iN x)), some (.int (iN y)), some (.int (iN nv)), some (.int (iN pq)), some (.int (iN 1)), some (.int (iN k)), b8] [] wk (fun r' w' => r' = some (.int (iN 1)) ∧ JM sc w') := by
    intro n
    induction n with
    | zero =>
      intro k wk tk uk b8 hk0 hk1 hk2 hk3
      exfalso
      omega
    | succ n ih =>
      intro k wk tk uk b8 hk0 hk1 hk2 hk3
      have J := hk1
      have n_ := J.1
      obtain ⟨⟨z0, f0, z0w⟩, z33, f33, z33w⟩ := J.cells
      have htm : k.tmod 12 = k % 12 := Int.tmod_eq_emod_of_nonneg (by omega)
      refine r_iload (pc2 := 46) dL_isRead_44 rfl rfl ?_
      refine r_bipush (pc2 := 48) dL_isRead_46 rfl (by decide) ?_
      refine r_iload (pc2 := 50) dL_isRead_48 rfl rfl ?_
      refine r_imul (pc2 := 51) dL_isRead_50 rfl ?_
      refine r_icmp_ge (pc2 := 54) (tgt := 190) dL_isRead_51 rfl (by decide) (by omega) (by omega) (fun h51 => ?_) (fun h51 => ?_)
      · have hkn : k = 12 * nv := by omega
        rw [hkn, lenK_e hnr] at J hk2 hk3
        refine r_iload (pc2 := 192) dL_isRead_190 rfl rfl ?_
        refine r_if_eq (pc2 := 195) (tgt := 214) dL_isRead_192 rfl (by decide) (by omega) (fun h192 => ?_) (fun h192 => ?_)
        · exfalso
          omega
        · refine r_aload_n (pc2 := 196) dL_isRead_195 rfl rfl ?_
          refine r_bipush (pc2 := 198) dL_isRead_196 rfl (by decide) ?_
          refine r_callv_1 (pc2 := 201) dL_isRead_198 rfl rs_99_35 rfl (by decide) rfl (Nat.le_of_ble_eq_true rfl) (Nat.le_of_ble_eq_true rfl) (by assumption) (by assumption) (ox_type J 58 (by omega) (by omega)) (fun r_ w_ h_ => ?_)
          obtain ⟨e_, J⟩ := h_
          rw [e_]
          clear e_ r_
          have n_ := J.1
          obtain ⟨⟨z0, f0, z0w⟩, z33, f33, z33w⟩ := J.cells
          refine ⟨by omega, ?_⟩
          refine r_aload_n (pc2 := 202) dL_isRead_201 rfl rfl ?_
          refine r_bipush (pc2 := 204) dL_isRead_202 rfl (by decide) ?_
          refine r_callv_1 (pc2 := 207) dL_isRead_204 rfl rs_99_35 rfl (by decide) rfl (Nat.le_of_ble_eq_true rfl) (Nat.le_of_ble_eq_true rfl) (by assumption) (by assumption) (px_type J 58 (by omega) (by omega)) (fun r_ w_ h_ => ?_)
          obtain ⟨e_, J⟩ := h_
          rw [e_]
          clear e_ r_
          have n_ := J.1
          obtain ⟨⟨z0, f0, z0w⟩, z33, f33, z33w⟩ := J.cells
          refine ⟨by omega, ?_⟩
          refine r_icmp_ne (pc2 := 210) (tgt := 214) dL_isRead_207 rfl (by decide) (by omega) (by omega) (fun h207 => ?_) (fun h207 => ?_)
          · exfalso
            omega
          · refine r_iconst (pc2 := 211) dL_isRead_210 rfl ?_
            refine r_goto (tgt := 215) dL_isRead_211 (by decide) ?_
            refine r_ist_6 (pc2 := 217) dL_isRead_215 rfl rfl ?_
            refine r_iconst (pc2 := 218) dL_isRead_217 rfl ?_
            refine r_ist_7 (pc2 := 220) dL_isRead_218 rfl rfl ?_
            have f1 := FT_0 (E := Eg y nv) hk2 hnr
            have f2 := FT_0 (E := Em y nv) hk3 hnr
            rw [show 13 * nv - 1 + 1 = 13 * nv + 0 by omega] at J
            exact lp2 (pq.toNat + 1) 0 _ _ _ _ (by omega) J f1 f2
      · refine r_bipush (pc2 := 56) dL_isRead_54 rfl (by decide) ?_
        refine r_iload (pc2 := 58) dL_isRead_56 rfl rfl ?_
        refine r_iconst (pc2 := 59) dL_isRead_58 rfl ?_
        refine r_isub (pc2 := 60) dL_isRead_59 rfl ?_
        refine r_iload (pc2 := 62) dL_isRead_60 rfl rfl ?_
        refine r_bipush (pc2 := 64) dL_isRead_62 rfl (by decide) ?_
        refine r_idiv (pc2 := 65) dL_isRead_64 rfl (by omega) (by omega) (by omega) (by omega) ?_
        refine r_isub (pc2 := 66) dL_isRead_65 rfl ?_
        refine r_imul (pc2 := 67) dL_isRead_66 rfl ?_
        refine r_iload (pc2 := 69) dL_isRead_67 rfl rfl ?_
        refine r_bipush (pc2 := 71) dL_isRead_69 rfl (by decide) ?_
        refine r_irem (pc2 := 72) dL_isRead_71 rfl (by omega) (by omega) (by omega) (by omega) ?_
        refine r_iadd (pc2 := 73) dL_isRead_72 rfl ?_
        rw [Int.tdiv_eq_ediv_of_nonneg (show 0 ≤ k by omega), htm]
        refine r_ist_8 (pc2 := 75) dL_isRead_73 rfl rfl ?_
        refine r_iload (pc2 := 77) dL_isRead_75 rfl rfl ?_
        refine r_if_eq (pc2 := 80) (tgt := 181) dL_isRead_77 rfl (by decide) (by omega) (fun h77 => ?_) (fun h77 => ?_)
        · exfalso
          omega
        · refine r_iload (pc2 := 82) dL_isRead_80 rfl rfl ?_
          refine r_if_eq (pc2 := 85) (tgt := 108) dL_isRead_82 rfl (by decide) (by omega) (fun h82 => ?_) (fun h82 => ?_)
          · have qa := lenK_a (D := Dg x y) (k := k) (by omega) (by omega)
            have qb := lenK_a (D := Dm x y nv) (k := k) (by omega) (by omega)
            obtain ⟨m, t1, u1, J, c1, c2x, d1, d2, d3, d4⟩ : ∃ (m : Int) (t1 u1 : Nat → Int), JJ sc wk (v, p, sh, ln, pr, gd, co, c, s) (v2, p2, sh, ln, pr, gd, co, c2, s2) m m t1 u1 ∧ CT (Dg x y) t1 m ∧ CT (Dm x y nv) u1 m ∧ (0 ≤ m ∧ m < 61) ∧ TXf (Dg x y) m = 48 + Dg x y k ∧ TXf (Dm x y nv) m = 48 + Dm x y nv k ∧ m + 1 = lenK (k + 1) := ⟨_, _, _, J, hk2, hk3, by omega, qa.2.1, qb.2.1, qa.2.2⟩
            have n_ := J.1
            obtain ⟨⟨z0, f0, z0w⟩, z33, f33, z33w⟩ := J.cells
            refine r_aload_n (pc2 := 109) dL_isRead_108 rfl rfl ?_
            refine r_bipush (pc2 := 111) dL_isRead_109 rfl (by decide) ?_
            refine r_iload_n (pc2 := 112) dL_isRead_111 rfl rfl ?_
            refine r_iload (pc2 := 114) dL_isRead_112 rfl rfl ?_
            refine r_bipush (pc2 := 116) dL_isRead_114 rfl (by decide) ?_
            refine r_irem (pc2 := 117) dL_isRead_116 rfl (by omega) (by omega) (by omega) (by omega) ?_
            refine r_zshr (pc2 := 118) dL_isRead_117 rfl ?_
            refine r_iload_n (pc2 := 119) dL_isRead_118 rfl rfl ?_
            refine r_iload (pc2 := 121) dL_isRead_119 rfl rfl ?_
            refine r_bipush (pc2 := 123) dL_isRead_121 rfl (by decide) ?_
            refine r_irem (pc2 := 124) dL_isRead_123 rfl (by omega) (by omega) (by omega) (by omega) ?_
            refine r_zshr (pc2 := 125) dL_isRead_124 rfl ?_
            refine r_zxor (pc2 := 126) dL_isRead_125 rfl ?_
            refine r_iconst (pc2 := 127) dL_isRead_126 rfl ?_
            refine r_iload (pc2 := 129) dL_isRead_127 rfl rfl ?_
            refine r_imul (pc2 := 130) dL_isRead_129 rfl ?_
            refine r_zxor (pc2 := 131) dL_isRead_130 rfl ?_
            refine r_bipush (pc2 := 133) dL_isRead_131 rfl (by decide) ?_
            refine r_calls_2 (pc2 := 136) dL_isRead_133 rfl rs_99_28 rfl (by decide) rfl (Nat.le_of_ble_eq_true rfl) (Nat.le_of_ble_eq_true rfl) (l_dg _ x y k) (fun r_ w_ h_ => ?_)
            rw [h_.1, h_.2]
            clear h_ w_ r_
            refine ⟨rfl, ?_⟩
            have hd := Dg_rg x y k
            refine r_iadd (pc2 := 137) dL_isRead_136 rfl ?_
            refine r_zi2c (pc2 := 138) dL_isRead_137 rfl (by omega) ?_
            refine r_callv_1 (pc2 := 141) dL_isRead_138 rfl rs_99_35 rfl (by decide) rfl (Nat.le_of_ble_eq_true rfl) (Nat.le_of_ble_eq_true rfl) (by assumption) (by assumption) (ox_type J (48 + Dg x y k) (by omega) (by omega)) (fun r_ w_ h_ => ?_)
            obtain ⟨e_, J⟩ := h_
            rw [e_]
            clear e_ r_
            have n_ := J.1
            obtain ⟨⟨z0, f0, z0w⟩, z33, f33, z33w⟩ := J.cells
            refine ⟨by omega, ?_⟩
            refine r_aload_n (pc2 := 142) dL_isRead_141 rfl rfl ?_
            refine r_bipush (pc2 := 144) dL_isRead_142 rfl (by decide) ?_
            refine r_iload_n (pc2 := 145) dL_isRead_144 rfl rfl ?_
            refine r_iload (pc2 := 147) dL_isRead_145 rfl rfl ?_
            refine r_bipush (pc2 := 149) dL_isRead_147 rfl (by decide) ?_
            refine r_irem (pc2 := 150) dL_isRead_149 rfl (by omega) (by omega) (by omega) (by omega) ?_
            refine r_zshr (pc2 := 151) dL_isRead_150 rfl ?_
            refine r_iload_n (pc2 := 152) dL_isRead_151 rfl rfl ?_
            refine r_iload (pc2 := 154) dL_isRead_152 rfl rfl ?_
            refine r_bipush (pc2 := 156) dL_isRead_154 rfl (by decide) ?_
            refine r_irem (pc2 := 157) dL_isRead_156 rfl (by omega) (by omega) (by omega) (by omega) ?_
            refine r_zshr (pc2 := 158) dL_isRead_157 rfl ?_
            refine r_zxor (pc2 := 159) dL_isRead_158 rfl ?_
            refine r_iconst (pc2 := 160) dL_isRead_159 rfl ?_
            refine r_iload (pc2 := 162) dL_isRead_160 rfl rfl ?_
            refine r_imul (pc2 := 163) dL_isRead_162 rfl ?_
            refine r_zxor (pc2 := 164) dL_isRead_163 rfl ?_
            refine r_bipush (pc2 := 166) dL_isRead_164 rfl (by decide) ?_
            refine r_calls_2 (pc2 := 169) dL_isRead_166 rfl rs_99_28 rfl (by decide) rfl (Nat.le_of_ble_eq_true rfl) (Nat.le_of_ble_eq_true rfl) (l_dg _ x y (12 * (nv - 1 - k / 12) + k % 12)) (fun r_ w_ h_ => ?_)
            rw [h_.1, h_.2]
            clear h_ w_ r_
            refine ⟨rfl, ?_⟩
            have hd2 := Dg_rg x y (12 * (nv - 1 - k / 12) + k % 12)
            refine r_isub (pc2 := 170) dL_isRead_169 rfl ?_
            refine r_zi2c (pc2 := 171) dL_isRead_170 rfl (by omega) ?_
            refine r_callv_1 (pc2 := 174) dL_isRead_171 rfl rs_99_35 rfl (by decide) rfl (Nat.le_of_ble_eq_true rfl) (Nat.le_of_ble_eq_true rfl) (by assumption) (by assumption) (px_type J (57 - Dg x y (12 * (nv - 1 - k / 12) + k % 12)) (by omega) (by omega)) (fun r_ w_ h_ => ?_)
            obtain ⟨e_, J⟩ := h_
            rw [e_]
            clear e_ r_
            have n_ := J.1
            obtain ⟨⟨z0, f0, z0w⟩, z33, f33, z33w⟩ := J.cells
            refine ⟨by omega, ?_⟩
            refine r_icmp_ne (pc2 := 177) (tgt := 181) dL_isRead_174 rfl (by decide) (by omega) (by omega) (fun h174 => ?_) (fun h174 => ?_)
            · exfalso
              omega
            · refine r_iconst (pc2 := 178) dL_isRead_177 rfl ?_
              refine r_goto (tgt := 182) dL_isRead_178 (by decide) ?_
              refine r_ist_6 (pc2 := 184) dL_isRead_182 rfl rfl ?_
              refine r_iinc_7 (pc2 := 187) dL_isRead_184 rfl rfl ?_
              refine r_goto (tgt := 44) dL_isRead_187 (by decide) ?_
              have f1 := CT_add c1 (by omega) d2.symm
              have f2 := CT_add (x := 57 - Dg x y (12 * (nv - 1 - k / 12) + k % 12)) c2x (by omega) (d3.trans (show 48 + (9 - Dg x y (12 * (nv - 1 - k / 12) + k % 12)) = 57 - Dg x y (12 * (nv - 1 - k / 12) + k % 12) by omega)).symm
              rw [d4] at J f1 f2
              exact ih (k + 1) _ _ _ _ (by omega) J f1 f2
          · refine r_iload (pc2 := 87) dL_isRead_85 rfl rfl ?_
            refine r_bipush (pc2 := 89) dL_isRead_87 rfl (by decide) ?_
            refine r_irem (pc2 := 90) dL_isRead_89 rfl (by omega) (by omega) (by omega) (by omega) ?_
            refine r_if_gt (pc2 := 93) (tgt := 108) dL_isRead_90 rfl (by decide) (by omega) (fun h90 => ?_) (fun h90 => ?_)
            · have qa := lenK_a (D := Dg x y) (k := k) (by omega) (by omega)
              have qb := lenK_a (D := Dm x y nv) (k := k) (by omega) (by omega)
              obtain ⟨m, t1, u1, J, c1, c2x, d1, d2, d3, d4⟩ : ∃ (m : Int) (t1 u1 : Nat → Int), JJ sc wk (v, p, sh, ln, pr, gd, co, c, s) (v2, p2, sh, ln, pr, gd, co, c2, s2) m m t1 u1 ∧ CT (Dg x y) t1 m ∧ CT (Dm x y nv) u1 m ∧ (0 ≤ m ∧ m < 61) ∧ TXf (Dg x y) m = 48 + Dg x y k ∧ TXf (Dm x y nv) m = 48 + Dm x y nv k ∧ m + 1 = lenK (k + 1) := ⟨_, _, _, J, hk2, hk3, by omega, qa.2.1, qb.2.1, qa.2.2⟩
              have n_ := J.1
              obtain ⟨⟨z0, f0, z0w⟩, z33, f33, z33w⟩ := J.cells
              refine r_aload_n (pc2 := 109) dL_isRead_108 rfl rfl ?_
              refine r_bipush (pc2 := 111) dL_isRead_109 rfl (by decide) ?_
              refine r_iload_n (pc2 := 112) dL_isRead_111 rfl rfl ?_
              refine r_iload (pc2 := 114) dL_isRead_112 rfl rfl ?_
              refine r_bipush (pc2 := 116) dL_isRead_114 rfl (by decide) ?_
              refine r_irem (pc2 := 117) dL_isRead_116 rfl (by omega) (by omega) (by omega) (by omega) ?_
              refine r_zshr (pc2 := 118) dL_isRead_117 rfl ?_
              refine r_iload_n (pc2 := 119) dL_isRead_118 rfl rfl ?_
              refine r_iload (pc2 := 121) dL_isRead_119 rfl rfl ?_
              refine r_bipush (pc2 := 123) dL_isRead_121 rfl (by decide) ?_
              refine r_irem (pc2 := 124) dL_isRead_123 rfl (by omega) (by omega) (by omega) (by omega) ?_
              refine r_zshr (pc2 := 125) dL_isRead_124 rfl ?_
              refine r_zxor (pc2 := 126) dL_isRead_125 rfl ?_
              refine r_iconst (pc2 := 127) dL_isRead_126 rfl ?_
              refine r_iload (pc2 := 129) dL_isRead_127 rfl rfl ?_
              refine r_imul (pc2 := 130) dL_isRead_129 rfl ?_
              refine r_zxor (pc2 := 131) dL_isRead_130 rfl ?_
              refine r_bipush (pc2 := 133) dL_isRead_131 rfl (by decide) ?_
              refine r_calls_2 (pc2 := 136) dL_isRead_133 rfl rs_99_28 rfl (by decide) rfl (Nat.le_of_ble_eq_true rfl) (Nat.le_of_ble_eq_true rfl) (l_dg _ x y k) (fun r_ w_ h_ => ?_)
              rw [h_.1, h_.2]
              clear h_ w_ r_
              refine ⟨rfl, ?_⟩
              have hd := Dg_rg x y k
              refine r_iadd (pc2 := 137) dL_isRead_136 rfl ?_
              refine r_zi2c (pc2 := 138) dL_isRead_137 rfl (by omega) ?_
              refine r_callv_1 (pc2 := 141) dL_isRead_138 rfl rs_99_35 rfl (by decide) rfl (Nat.le_of_ble_eq_true rfl) (Nat.le_of_ble_eq_true rfl) (by assumption) (by assumption) (ox_type J (48 + Dg x y k) (by omega) (by omega)) (fun r_ w_ h_ => ?_)
              obtain ⟨e_, J⟩ := h_
              rw [e_]
              clear e_ r_
              have n_ := J.1
              obtain ⟨⟨z0, f0, z0w⟩, z33, f33, z33w⟩ := J.cells
              refine ⟨by omega, ?_⟩
              refine r_aload_n (pc2 := 142) dL_isRead_141 rfl rfl ?_
              refine r_bipush (pc2 := 144) dL_isRead_142 rfl (by decide) ?_
              refine r_iload_n (pc2 := 145) dL_isRead_144 rfl rfl ?_
              refine r_iload (pc2 := 147) dL_isRead_145 rfl rfl ?_
              refine r_bipush (pc2 := 149) dL_isRead_147 rfl (by decide) ?_
              refine r_irem (pc2 := 150) dL_isRead_149 rfl (by omega) (by omega) (by omega) (by omega) ?_
              refine r_zshr (pc2 := 151) dL_isRead_150 rfl ?_
              refine r_iload_n (pc2 := 152) dL_isRead_151 rfl rfl ?_
              refine r_iload (pc2 := 154) dL_isRead_152 rfl rfl ?_
              refine r_bipush (pc2 := 156) dL_isRead_154 rfl (by decide) ?_
              refine r_irem (pc2 := 157) dL_isRead_156 rfl (by omega) (by omega) (by omega) (by omega) ?_
              refine r_zshr (pc2 := 158) dL_isRead_157 rfl ?_
              refine r_zxor (pc2 := 159) dL_isRead_158 rfl ?_
              refine r_iconst (pc2 := 160) dL_isRead_159 rfl ?_
              refine r_iload (pc2 := 162) dL_isRead_160 rfl rfl ?_
              refine r_imul (pc2 := 163) dL_isRead_162 rfl ?_
              refine r_zxor (pc2 := 164) dL_isRead_163 rfl ?_
              refine r_bipush (pc2 := 166) dL_isRead_164 rfl (by decide) ?_
              refine r_calls_2 (pc2 := 169) dL_isRead_166 rfl rs_99_28 rfl (by decide) rfl (Nat.le_of_ble_eq_true rfl) (Nat.le_of_ble_eq_true rfl) (l_dg _ x y (12 * (nv - 1 - k / 12) + k % 12)) (fun r_ w_ h_ => ?_)
              rw [h_.1, h_.2]
              clear h_ w_ r_
              refine ⟨rfl, ?_⟩
              have hd2 := Dg_rg x y (12 * (nv - 1 - k / 12) + k % 12)
              refine r_isub (pc2 := 170) dL_isRead_169 rfl ?_
              refine r_zi2c (pc2 := 171) dL_isRead_170 rfl (by omega) ?_
              refine r_callv_1 (pc2 := 174) dL_isRead_171 rfl rs_99_35 rfl (by decide) rfl (Nat.le_of_ble_eq_true rfl) (Nat.le_of_ble_eq_true rfl) (by assumption) (by assumption) (px_type J (57 - Dg x y (12 * (nv - 1 - k / 12) + k % 12)) (by omega) (by omega)) (fun r_ w_ h_ => ?_)
              obtain ⟨e_, J⟩ := h_
              rw [e_]
              clear e_ r_
              have n_ := J.1
              obtain ⟨⟨z0, f0, z0w⟩, z33, f33, z33w⟩ := J.cells
              refine ⟨by omega, ?_⟩
              refine r_icmp_ne (pc2 := 177) (tgt := 181) dL_isRead_174 rfl (by decide) (by omega) (by omega) (fun h174 => ?_) (fun h174 => ?_)
              · exfalso
                omega
              · refine r_iconst (pc2 := 178) dL_isRead_177 rfl ?_
                refine r_goto (tgt := 182) dL_isRead_178 (by decide) ?_
                refine r_ist_6 (pc2 := 184) dL_isRead_182 rfl rfl ?_
                refine r_iinc_7 (pc2 := 187) dL_isRead_184 rfl rfl ?_
                refine r_goto (tgt := 44) dL_isRead_187 (by decide) ?_
                have f1 := CT_add c1 (by omega) d2.symm
                have f2 := CT_add (x := 57 - Dg x y (12 * (nv - 1 - k / 12) + k % 12)) c2x (by omega) (d3.trans (show 48 + (9 - Dg x y (12 * (nv - 1 - k / 12) + k % 12)) = 57 - Dg x y (12 * (nv - 1 - k / 12) + k % 12) by omega)).symm
                rw [d4] at J f1 f2
                exact ih (k + 1) _ _ _ _ (by omega) J f1 f2
            · have qa := lenK_b (D := Dg x y) (k := k) (by omega) (by omega)
              have qb := lenK_b (D := Dm x y nv) (k := k) (by omega) (by omega)
              refine r_aload_n (pc2 := 94) dL_isRead_93 rfl rfl ?_
              refine r_bipush (pc2 := 96) dL_isRead_94 rfl (by decide) ?_
              refine r_callv_1 (pc2 := 99) dL_isRead_96 rfl rs_99_35 rfl (by decide) rfl (Nat.le_of_ble_eq_true rfl) (Nat.le_of_ble_eq_true rfl) (by assumption) (by assumption) (ox_type J 47 (by omega) (by omega)) (fun r_ w_ h_ => ?_)
              obtain ⟨e_, J⟩ := h_
              rw [e_]
              clear e_ r_
              have n_ := J.1
              obtain ⟨⟨z0, f0, z0w⟩, z33, f33, z33w⟩ := J.cells
              refine ⟨by omega, ?_⟩
              refine r_aload_n (pc2 := 100) dL_isRead_99 rfl rfl ?_
              refine r_bipush (pc2 := 102) dL_isRead_100 rfl (by decide) ?_
              refine r_callv_1 (pc2 := 105) dL_isRead_102 rfl rs_99_35 rfl (by decide) rfl (Nat.le_of_ble_eq_true rfl) (Nat.le_of_ble_eq_true rfl) (by assumption) (by assumption) (px_type J 47 (by omega) (by omega)) (fun r_ w_ h_ => ?_)
              obtain ⟨e_, J⟩ := h_
              rw [e_]
              clear e_ r_
              have n_ := J.1
              obtain ⟨⟨z0, f0, z0w⟩, z33, f33, z33w⟩ := J.cells
              refine ⟨by omega, ?_⟩
              refine r_icmp_ne (pc2 := 108) (tgt := 181) dL_isRead_105 rfl (by decide) (by omega) (by omega) (fun h105 => ?_) (fun h105 => ?_)
              · exfalso
                omega
              · obtain ⟨m, t1, u1, J, c1, c2x, d1, d2, d3, d4⟩ : ∃ (m : Int) (t1 u1 : Nat → Int), JJ sc w_ (v, p, sh, ln, pr, gd, co, c, s) (v2, p2, sh, ln, pr, gd, co, c2, s2) m m t1 u1 ∧ CT (Dg x y) t1 m ∧ CT (Dm x y nv) u1 m ∧ (0 ≤ m ∧ m < 61) ∧ TXf (Dg x y) m = 48 + Dg x y k ∧ TXf (Dm x y nv) m = 48 + Dm x y nv k ∧ m + 1 = lenK (k + 1) := ⟨_, _, _, J, CT_add hk2 (by omega) qa.2.1.symm, CT_add hk3 (by omega) qb.2.1.symm, by omega, qa.2.2.1, qb.2.2.1, qa.2.2.2⟩
                have n_ := J.1
                obtain ⟨⟨z0, f0, z0w⟩, z33, f33, z33w⟩ := J.cells
                refine r_aload_n (pc2 := 109) dL_isRead_108 rfl rfl ?_
                refine r_bipush (pc2 := 111) dL_isRead_109 rfl (by decide) ?_
                refine r_iload_n (pc2 := 112) dL_isRead_111 rfl rfl ?_
                refine r_iload (pc2 := 114) dL_isRead_112 rfl rfl ?_
                refine r_bipush (pc2 := 116) dL_isRead_114 rfl (by decide) ?_
                refine r_irem (pc2 := 117) dL_isRead_116 rfl (by omega) (by omega) (by omega) (by omega) ?_
                refine r_zshr (pc2 := 118) dL_isRead_117 rfl ?_
                refine r_iload_n (pc2 := 119) dL_isRead_118 rfl rfl ?_
                refine r_iload (pc2 := 121) dL_isRead_119 rfl rfl ?_
                refine r_bipush (pc2 := 123) dL_isRead_121 rfl (by decide) ?_
                refine r_irem (pc2 := 124) dL_isRead_123 rfl (by omega) (by omega) (by omega) (by omega) ?_
                refine r_zshr (pc2 := 125) dL_isRead_124 rfl ?_
                refine r_zxor (pc2 := 126) dL_isRead_125 rfl ?_
                refine r_iconst (pc2 := 127) dL_isRead_126 rfl ?_
                refine r_iload (pc2 := 129) dL_isRead_127 rfl rfl ?_
                refine r_imul (pc2 := 130) dL_isRead_129 rfl ?_
                refine r_zxor (pc2 := 131) dL_isRead_130 rfl ?_
                refine r_bipush (pc2 := 133) dL_isRead_131 rfl (by decide) ?_
                refine r_calls_2 (pc2 := 136) dL_isRead_133 rfl rs_99_28 rfl (by decide) rfl (Nat.le_of_ble_eq_true rfl) (Nat.le_of_ble_eq_true rfl) (l_dg _ x y k) (fun r_ w_ h_ => ?_)
                rw [h_.1, h_.2]
                clear h_ w_ r_
                refine ⟨rfl, ?_⟩
                have hd := Dg_rg x y k
                refine r_iadd (pc2 := 137) dL_isRead_136 rfl ?_
                refine r_zi2c (pc2 := 138) dL_isRead_137 rfl (by omega) ?_
                refine r_callv_1 (pc2 := 141) dL_isRead_138 rfl rs_99_35 rfl (by decide) rfl (Nat.le_of_ble_eq_true rfl) (Nat.le_of_ble_eq_true rfl) (by assumption) (by assumption) (ox_type J (48 + Dg x y k) (by omega) (by omega)) (fun r_ w_ h_ => ?_)
                obtain ⟨e_, J⟩ := h_
                rw [e_]
                clear e_ r_
                have n_ := J.1
                obtain ⟨⟨z0, f0, z0w⟩, z33, f33, z33w⟩ := J.cells
                refine ⟨by omega, ?_⟩
                refine r_aload_n (pc2 := 142) dL_isRead_141 rfl rfl ?_
                refine r_bipush (pc2 := 144) dL_isRead_142 rfl (by decide) ?_
                refine r_iload_n (pc2 := 145) dL_isRead_144 rfl rfl ?_
                refine r_iload (pc2 := 147) dL_isRead_145 rfl rfl ?_
                refine r_bipush (pc2 := 149) dL_isRead_147 rfl (by decide) ?_
                refine r_irem (pc2 := 150) dL_isRead_149 rfl (by omega) (by omega) (by omega) (by omega) ?_
                refine r_zshr (pc2 := 151) dL_isRead_150 rfl ?_
                refine r_iload_n (pc2 := 152) dL_isRead_151 rfl rfl ?_
                refine r_iload (pc2 := 154) dL_isRead_152 rfl rfl ?_
                refine r_bipush (pc2 := 156) dL_isRead_154 rfl (by decide) ?_
                refine r_irem (pc2 := 157) dL_isRead_156 rfl (by omega) (by omega) (by omega) (by omega) ?_
                refine r_zshr (pc2 := 158) dL_isRead_157 rfl ?_
                refine r_zxor (pc2 := 159) dL_isRead_158 rfl ?_
                refine r_iconst (pc2 := 160) dL_isRead_159 rfl ?_
                refine r_iload (pc2 := 162) dL_isRead_160 rfl rfl ?_
                refine r_imul (pc2 := 163) dL_isRead_162 rfl ?_
                refine r_zxor (pc2 := 164) dL_isRead_163 rfl ?_
                refine r_bipush (pc2 := 166) dL_isRead_164 rfl (by decide) ?_
                refine r_calls_2 (pc2 := 169) dL_isRead_166 rfl rs_99_28 rfl (by decide) rfl (Nat.le_of_ble_eq_true rfl) (Nat.le_of_ble_eq_true rfl) (l_dg _ x y (12 * (nv - 1 - k / 12) + k % 12)) (fun r_ w_ h_ => ?_)
                rw [h_.1, h_.2]
                clear h_ w_ r_
                refine ⟨rfl, ?_⟩
                have hd2 := Dg_rg x y (12 * (nv - 1 - k / 12) + k % 12)
                refine r_isub (pc2 := 170) dL_isRead_169 rfl ?_
                refine r_zi2c (pc2 := 171) dL_isRead_170 rfl (by omega) ?_
                refine r_callv_1 (pc2 := 174) dL_isRead_171 rfl rs_99_35 rfl (by decide) rfl (Nat.le_of_ble_eq_true rfl) (Nat.le_of_ble_eq_true rfl) (by assumption) (by assumption) (px_type J (57 - Dg x y (12 * (nv - 1 - k / 12) + k % 12)) (by omega) (by omega)) (fun r_ w_ h_ => ?_)
                obtain ⟨e_, J⟩ := h_
                rw [e_]
                clear e_ r_
                have n_ := J.1
                obtain ⟨⟨z0, f0, z0w⟩, z33, f33, z33w⟩ := J.cells
                refine ⟨by omega, ?_⟩
                refine r_icmp_ne (pc2 := 177) (tgt := 181) dL_isRead_174 rfl (by decide) (by omega) (by omega) (fun h174 => ?_) (fun h174 => ?_)
                · exfalso
                  omega
                · refine r_iconst (pc2 := 178) dL_isRead_177 rfl ?_
                  refine r_goto (tgt := 182) dL_isRead_178 (by decide) ?_
                  refine r_ist_6 (pc2 := 184) dL_isRead_182 rfl rfl ?_
                  refine r_iinc_7 (pc2 := 187) dL_isRead_184 rfl rfl ?_
                  refine r_goto (tgt := 44) dL_isRead_187 (by decide) ?_
                  have f1 := CT_add c1 (by omega) d2.symm
                  have f2 := CT_add (x := 57 - Dg x y (12 * (nv - 1 - k / 12) + k % 12)) c2x (by omega) (d3.trans (show 48 + (9 - Dg x y (12 * (nv - 1 - k / 12) + k % 12)) = 57 - Dg x y (12 * (nv - 1 - k / 12) + k % 12) by omega)).symm
                  rw [d4] at J f1 f2
                  exact ih (k + 1) _ _ _ _ (by omega) J f1 f2
  refine r_iconst (pc2 := 1) dL_isRead_0 rfl ?_
  refine r_iload_n (pc2 := 2) dL_isRead_1 rfl rfl ?_
  refine r_iconst (pc2 := 3) dL_isRead_2 rfl ?_
  refine r_calls_2 (pc2 := 6) dL_isRead_3 rfl rs_99_28 rfl (by decide) rfl (Nat.le_of_ble_eq_true rfl) (Nat.le_of_ble_eq_true rfl) (l_up _ _ _ (by omega)) (fun r_ w_ h_ => ?_)
  rw [h_.1, h_.2]
  clear h_ w_ r_
  refine ⟨rfl, ?_⟩
  refine r_iadd (pc2 := 7) dL_isRead_6 rfl ?_
  rw [← hnv]
  refine r_ist_4 (pc2 := 9) dL_isRead_7 rfl rfl ?_
  refine r_iconst (pc2 := 10) dL_isRead_9 rfl ?_
  refine r_iload_n (pc2 := 11) dL_isRead_10 rfl rfl ?_
  refine r_iconst (pc2 := 12) dL_isRead_11 rfl ?_
  refine r_zshr (pc2 := 13) dL_isRead_12 rfl ?_
  refine r_iconst (pc2 := 14) dL_isRead_13 rfl ?_
  refine r_calls_2 (pc2 := 17) dL_isRead_14 rfl rs_99_28 rfl (by decide) rfl (Nat.le_of_ble_eq_true rfl) (Nat.le_of_ble_eq_true rfl) (l_up _ _ _ (by omega)) (fun r_ w_ h_ => ?_)
  rw [h_.1, h_.2]
  clear h_ w_ r_
  refine ⟨rfl, ?_⟩
  refine r_iadd (pc2 := 18) dL_isRead_17 rfl ?_
  rw [← hpv]
  refine r_ist_5 (pc2 := 20) dL_isRead_18 rfl rfl ?_
  refine r_aload_n (pc2 := 21) dL_isRead_20 rfl rfl ?_
  refine r_callv_0 (pc2 := 24) dL_isRead_21 rfl rs_99_31 rfl (by decide) rfl (Nat.le_of_ble_eq_true rfl) (Nat.le_of_ble_eq_true rfl) (by assumption) (by assumption) (ox_clearText J) (fun r_ w_ h_ => ?_)
  obtain ⟨e_, J⟩ := h_
  rw [e_]
  clear e_ r_
  have n_ := J.1
  obtain ⟨⟨z0, f0, z0w⟩, z33, f33, z33w⟩ := J.cells
  refine ⟨by omega, ?_⟩
  refine r_if_lt (pc2 := 27) (tgt := 38) dL_isRead_24 rfl (by decide) (by omega) (fun h24 => ?_) (fun h24 => ?_)
  · exfalso
    omega
  · refine r_aload_n (pc2 := 28) dL_isRead_27 rfl rfl ?_
    refine r_callv_0 (pc2 := 31) dL_isRead_28 rfl rs_99_31 rfl (by decide) rfl (Nat.le_of_ble_eq_true rfl) (Nat.le_of_ble_eq_true rfl) (by assumption) (by assumption) (px_clearText J) (fun r_ w_ h_ => ?_)
    obtain ⟨e_, J⟩ := h_
    rw [e_]
    clear e_ r_
    have n_ := J.1
    obtain ⟨⟨z0, f0, z0w⟩, z33, f33, z33w⟩ := J.cells
    refine ⟨by omega, ?_⟩
    refine r_if_lt (pc2 := 34) (tgt := 38) dL_isRead_31 rfl (by decide) (by omega) (fun h31 => ?_) (fun h31 => ?_)
    · exfalso
      omega
    · refine r_iconst (pc2 := 35) dL_isRead_34 rfl ?_
      refine r_goto (tgt := 39) dL_isRead_35 (by decide) ?_
      refine r_ist_6 (pc2 := 41) dL_isRead_39 rfl rfl ?_
      refine r_iconst (pc2 := 42) dL_isRead_41 rfl ?_
      refine r_ist_7 (pc2 := 44) dL_isRead_42 rfl rfl ?_
      exact lp1 ((12 * nv).toNat + 1) 0 _ _ _ _ (by omega) J (fun i h0 h1 => by unfold lenK at h1; rw [if_pos rfl] at h1; omega) (fun i h0 h1 => by unfold lenK at h1; rw [if_pos rfl] at h1; omega)

theorem l_isRead {sc : av_E} {w : av_W} {V U : CV} {len len2 : Int} {t t2 : Nat → Int} (J : JJ sc w V U len len2 t t2) (h : SC V U) (x y : Int) : cl ML_isRead [.ref 0, .ref 33, .int (iN x), .int (iN y)] w (fun r' w' => r' = some (.int (iN 1)) ∧ JM sc w') := by
  obtain ⟨v, p, sh, ln, pr, gd, co, c, s⟩ := V
  obtain ⟨v2, p2, sh2, ln2, pr2, gd2, co2, c2, s2⟩ := U
  obtain ⟨rfl, rfl, rfl, rfl, rfl⟩ := h
  exact l_isReadT J x y

