/-! the class's acts: texts, history, read -/
def badC (t : Nat → Int) (tl q : Int) : Prop := (0 ≤ q ∧ q ≤ tl) ∧ (∀ j : Nat, (j : Int) < q → alC t (coF t j) j) ∧ ((q < tl ∧ ¬ alC t (coF t q.toNat) q) ∨ (q = tl ∧ ¬ enC tl (coF t tl.toNat)))
def goodC (t : Nat → Int) (tl : Int) : Prop := (∀ j : Nat, (j : Int) < tl → alC t (coF t j) j) ∧ enC tl (coF t tl.toNat)
theorem coF_no {c : Nat → Int} {n : Nat} (h : coF c n = -1) : ∀ j : Nat, j < n → chZ c j ≠ 58 := by
  induction n with
  | zero =>
    intro j hj
    omega
  | succ n ih =>
    intro j hj q
    by_cases h2 : chZ c n = 58
    · have e : coF c (n + 1) = n := if_pos h2
      omega
    · have e : coF c (n + 1) = coF c n := if_neg h2
      by_cases hjn : j = n
      · subst hjn
        exact h2 q
      · exact ih (by omega) j (by omega) q
theorem coF_last {c : Nat → Int} {n : Nat} (h : coF c n ≠ -1) : chZ c (coF c n) = 58 := by
  induction n with
  | zero => exact absurd rfl h
  | succ n ih =>
    by_cases h2 : chZ c n = 58
    · have e : coF c (n + 1) = n := if_pos h2
      rw [e]
      exact h2
    · have e : coF c (n + 1) = coF c n := if_neg h2
      rw [e] at h ⊢
      exact ih h
theorem al_51 {t : Nat → Int} {q : Int} (h : ∀ j : Nat, (j : Int) < q → alC t (coF t j) j) (hn : ∀ j : Nat, (j : Int) < q → chZ t j ≠ 58) : q ≤ 51 := by
  apply Classical.byContradiction
  intro hq
  have h1 := h 51 (by omega)
  have e : coF t 51 = -1 := coF_none (fun j hj => hn j (by omega))
  rw [e] at h1
  have h2 := hn 51 (by omega)
  unfold alC at h1
  rw [if_pos rfl, if_pos (by omega)] at h1
  rcases h1 with h3 | h3
  · omega
  · exact h2 h3.1
theorem goodC_1 {t : Nat → Int} {tl : Int} (h : goodC t tl) (h0 : 0 ≤ tl) (hk : coF t tl.toNat = -1) : (tl + 1) % 13 = 0 ∧ 2 ≤ (tl + 1) / 13 ∧ (tl + 1) / 13 ≤ 4 := by
  obtain ⟨ha, he⟩ := h
  rw [hk] at he
  unfold enC at he
  rw [if_pos rfl] at he
  have := al_51 ha (fun j hj => coF_no hk j (by omega))
  omega
theorem goodC_2 {t : Nat → Int} {tl : Int} (h : goodC t tl) (h0 : 0 ≤ tl) (hk : coF t tl.toNat ≠ -1) : (0 ≤ coF t tl.toNat ∧ coF t tl.toNat < tl) ∧ (coF t tl.toNat + 1) % 13 = 0 ∧ (2 ≤ (coF t tl.toNat + 1) / 13 ∧ (coF t tl.toNat + 1) / 13 ≤ 4) ∧ 2 ≤ tl - coF t tl.toNat - 1 ∧ tl - coF t tl.toNat - 1 ≤ 6 := by
  obtain ⟨ha, he⟩ := h
  unfold enC at he
  rw [if_neg hk] at he
  have h1 := coF_last hk
  have h2 := coF_rg t tl.toNat
  generalize hx : coF t tl.toNat = k at *
  have h3 := ha k.toNat (by omega)
  have h4 : coF t k.toNat = -1 := by
    apply Classical.byContradiction
    intro q
    unfold alC at h3
    rw [if_neg q, show ((k.toNat : Nat) : Int) = k by omega] at h3
    have : dgZ t k = -1 := by
      unfold dgZ
      rw [if_neg (by omega)]
    omega
  rw [h4] at h3
  unfold alC at h3
  rw [if_pos rfl, show ((k.toNat : Nat) : Int) = k by omega] at h3
  have h5 := al_51 (t := t) (q := k) (fun j hj => ha j (by omega)) (fun j hj => coF_no h4 j (by omega))
  have h6 : (k + 1) % 13 = 0 ∧ 2 ≤ (k + 1) / 13 := by
    by_cases q : (k + 1) % 13 = 0
    · rw [if_pos q] at h3
      rcases h3 with h3 | h3
      · omega
      · exact ⟨q, h3.2⟩
    · rw [if_neg q] at h3
      exfalso
      apply h3
      unfold dgZ
      rw [if_neg (by omega)]
  have h7 := ha (tl - 1).toNat (by omega)
  have h8 : tl - 1 - k ≤ 6 := by
    by_cases q : (tl - 1).toNat = k.toNat
    · omega
    · have h9 : coF t (tl - 1).toNat = k := by
        have e : tl.toNat = (tl - 1).toNat + 1 := by omega
        rw [e] at hx
        by_cases h10 : chZ t ((tl - 1).toNat : Nat) = 58
        · have e2 : coF t ((tl - 1).toNat + 1) = ((tl - 1).toNat : Nat) := if_pos h10
          omega
        · have e2 : coF t ((tl - 1).toNat + 1) = coF t (tl - 1).toNat := if_neg h10
          rw [← e2]
          exact hx
      rw [h9] at h7
      unfold alC at h7
      rw [if_neg hk] at h7
      omega
  omega
/-- the card that a text says -/
def rdV (V : CV) (t : Nat → Int) (len : Int) : CV := match V with
  | (v, p, sh, ln, pr, gd, co, c, s) => if coF t len.toNat = -1 then ((len + 1) / 13, p, sh, ln, pr, gd, co, preF ((len + 1) / 13 * 12) (dgc t) c, preF 6 (inT ((len + 1) / 13)) s) else ((coF t len.toNat + 1) / 13, len - coF t len.toNat - 1, sh, ln, pr, gd, co, preF ((coF t len.toNat + 1) / 13 * 12) (dgc t) c, preF (len - coF t len.toNat - 1) (fun j => dgZ t (coF t len.toNat + 1 + j)) (preF 6 (inT ((coF t len.toNat + 1) / 13)) s))
theorem c_faultC (w : av_W) (len k : Int) (c : Nat → Int) (hT : Tx w 31 32 len k c) (hR : CR c) (hlen : 0 ≤ len ∧ len ≤ 80) : cl MX1_findFault [.ref 31] w (fun r' w' => ∃ x kk : Int, r' = some (.int (iN x)) ∧ w' = wst w 31 (txO 32 len kk) ∧ (-1 ≤ x ∧ x ≤ 80) ∧ ((x ≠ -1 ∧ badC c len x) ∨ (x = -1 ∧ goodC c len ∧ kk = coF c len.toNat))) := by
  refine (c_findFault w 31 32 len k c hT hR hlen).imp (fun r' w' q => ?_)
  rcases q with ⟨i, h1, h2, h3, e1, e2⟩ | ⟨h1, e1, e2⟩
  · refine ⟨i, _, e1, e2, by omega, Or.inl ⟨by omega, ⟨by omega, by omega⟩, fun j hj => h2 j (by omega), Or.inl ⟨h1, ?_⟩⟩⟩
    rw [show ((i : Nat) : Int).toNat = i by omega]
    exact h3
  · by_cases h4 : enC len (coF c len.toNat)
    · rw [if_pos h4] at e1
      exact ⟨-1, _, e1, e2, by omega, Or.inr ⟨rfl, ⟨h1, h4⟩, rfl⟩⟩
    · rw [if_neg h4] at e1
      exact ⟨len, _, e1, e2, by omega, Or.inl ⟨by omega, ⟨by omega, by omega⟩, h1, Or.inr ⟨rfl, h4⟩⟩⟩

set_option maxHeartbeats 4000000 in
theorem c_read (w : av_W) (v p sh ln pr gd co : Int) (c s : Nat → Int) (L : Nat → CV) (n : Int) (S : CV) (hs len : Int) (t : Nat → Int) (h : CLS w (v, p, sh, ln, pr, gd, co, c, s) L n S hs len t) (hV : KV (v, p, sh, ln, pr, gd, co, c, s)) (hn : 0 ≤ n ∧ n ≤ 4) (hR : CR t) (hlen : 0 ≤ len ∧ len ≤ 80) : cl MX4_read [.ref 0] w (fun r' w' => (∃ q : Int, badC t len q ∧ RC w w' r' (-200 - q) (v, p, sh, ln, pr, gd, co, c, s) L n S hs len t) ∨ (goodC t len ∧ RC w w' r' (rdV (v, p, sh, ln, pr, gd, co, c, s) t len).1 (rdV (v, p, sh, ln, pr, gd, co, c, s) t len) (recL L n (v, p, sh, ln, pr, gd, co, c, s)) (recN n) S hs len t)) := by
  obtain ⟨x33, x0w, xC, ⟨xf, xg, xG⟩, ⟨xT, xTV⟩, ⟨xf2, xg2, xH⟩, ⟨xb, xB⟩, ⟨xq, xP⟩, xS, ⟨xk, xX⟩⟩ := id h
  have x0 : 0 < w.1 := by omega
  have xC : Cd w 2 3 4 v p sh ln pr gd co c s := xC
  obtain ⟨⟨x1, x1w⟩, -⟩ := id xC
  have x14 : 14 < w.1 := by omega
  have x14w := xP.1
  obtain ⟨hK, hS, hc, hpr⟩ := id hV
  have hK : KR v p sh ln := hK
  have hS : SR s := hS
  have hc : ∀ j : Nat, j < 48 → 0 ≤ c j ∧ c j ≤ 9 := hc
  have hpr : 0 ≤ pr ∧ pr ≤ 99999 := hpr
  obtain ⟨hv, hp, hsh, hln⟩ := id hK
  obtain ⟨⟨x31, x31w⟩, -⟩ := id xX
  obtain ⟨hr1, hr2⟩ := hlen
  show rn MX4_read 0 [some (.ref 0), none] [] w _
  refine r_aload_n (pc2 := 1) dX4_read_0 rfl rfl ?_
  refine r_getf (pc2 := 4) dX4_read_1 rfl fl_4_51 (by assumption) (by assumption) (by rfl) ?_
  refine r_callv_0 (pc2 := 7) dX4_read_4 rfl rs_4_134 rfl (by decide) rfl (Nat.le_of_ble_eq_true rfl) (Nat.le_of_ble_eq_true rfl) (by assumption) (by assumption) (c_faultC w len xk t xX hR ⟨hr1, hr2⟩) (fun r_ w_ h_ => ?_)
  obtain ⟨x, kk, e1_, e2_, hxr, hbg⟩ := h_
  rw [e1_, e2_]
  clear e1_ e2_ w_ r_
  have g1 : agO 31 33 w (wst w 31 (txO 32 len kk)) := agO.wst _ (by omega)
  have hX1 : Tx (wst w 31 (txO 32 len kk)) 31 32 len kk t := ⟨⟨x31, wst_self⟩, ⟨xX.2.1.1, by rw [wst_ne (by decide)]; exact xX.2.1.2⟩, xX.2.2⟩
  have h1 : CLS (wst w 31 (txO 32 len kk)) (v, p, sh, ln, pr, gd, co, c, s) L n S hs len t := CLS_text h g1 _ _ ⟨_, hX1⟩
  obtain ⟨z33, z0w, zC, ⟨zf, zg, zG⟩, ⟨zT, zTV⟩, ⟨zf2, zg2, zH⟩, ⟨zb, zB⟩, ⟨zq, zP⟩, zS, ⟨zk, zX⟩⟩ := id h1
  have z0 : 0 < (wst w 31 (txO 32 len kk)).1 := by omega
  have zC : Cd (wst w 31 (txO 32 len kk)) 2 3 4 v p sh ln pr gd co c s := zC
  obtain ⟨⟨z1, z1w⟩, -⟩ := id zC
  have z14 : 14 < (wst w 31 (txO 32 len kk)).1 := by omega
  have z14w := zP.1
  refine ⟨rfl, ?_⟩
  refine r_ist_1 (pc2 := 8) dX4_read_7 rfl rfl ?_
  refine r_iload_n (pc2 := 9) dX4_read_8 rfl rfl ?_
  refine r_iconst (pc2 := 10) dX4_read_9 rfl ?_
  refine r_icmp_eq (pc2 := 13) (tgt := 19) dX4_read_10 rfl (by decide) (by omega) (by omega) (fun h10 => ?_) (fun h10 => ?_)
  · refine r_aload_n (pc2 := 20) dX4_read_19 rfl rfl ?_
    refine r_getf (pc2 := 23) dX4_read_20 rfl fl_4_34 (by assumption) (by assumption) (by rfl) ?_
    refine r_aload_n (pc2 := 24) dX4_read_23 rfl rfl ?_
    refine r_getf (pc2 := 27) dX4_read_24 rfl fl_4_20 (by assumption) (by assumption) (by rfl) ?_
    refine r_callv_1 (pc2 := 30) dX4_read_27 rfl rs_4_70 rfl (by decide) rfl (Nat.le_of_ble_eq_true rfl) (Nat.le_of_ble_eq_true rfl) (by assumption) (by assumption) (c_rec _ _ _ _ _ _ _ _ h1 hn) (fun r_ w_ h_ => ?_)
    obtain ⟨e_, gr, hr⟩ := h_
    rw [e_]
    clear e_
    obtain ⟨wr, rfl⟩ : ∃ wr, wr = w_ := ⟨_, rfl⟩
    obtain ⟨y33, y0w, yC, ⟨yf, yg, yG⟩, ⟨yT, yTV⟩, ⟨yf2, yg2, yH⟩, ⟨yb, yB⟩, ⟨yq, yP⟩, yS, ⟨yk, yX⟩⟩ := id hr
    have y0 : 0 < wr.1 := by omega
    have yC : Cd wr 2 3 4 v p sh ln pr gd co c s := yC
    obtain ⟨⟨y1, y1w⟩, -⟩ := id yC
    have y14 : 14 < wr.1 := by omega
    have y14w := yP.1
    refine ⟨gr.1, ?_⟩
    obtain ⟨⟨y31, y31w⟩, -⟩ := id yX
    obtain ⟨Wr, hf, gf, hCf⟩ : ∃ Wr : av_W, fn MX1_writeTo [.ref 31, .ref 2] wr none Wr ∧ agO 2 5 wr Wr ∧ CdV Wr 2 (rdV (v, p, sh, ln, pr, gd, co, c, s) t len) := by
      have yX2 : Tx wr 31 32 len kk t := hX1.ag gr (by omega) (by omega)
      rcases hbg with hb | ⟨hb1, hgd, hkk⟩
      · exact absurd h10 hb.1
      · by_cases hk1 : coF t len.toNat = -1
        · have hg1 := goodC_1 hgd hr1 hk1
          have hk2 : kk = -1 := by omega
          refine ⟨cdW wr 2 3 4 (cdO 3 4 ((len + 1) / 13) p sh ln pr gd co) (arO 48 (preF ((len + 1) / 13 * 12) (dgc t) c)) (arO 6 (preF 6 (inT ((len + 1) / 13)) s)), c_writeTo wr 31 32 len kk t yX2 hR ⟨hr1, hr2⟩ 2 3 4 v p sh ln pr gd co c s yC (by decide) (by decide) (by omega) len ((len + 1) / 13) (by rw [if_pos hk2]) rfl ⟨⟨hg1.2.1, hg1.2.2⟩, hp, hsh, hln⟩ (fun q => absurd hk2 q) _ (fun _ => rfl) (fun q => absurd hk2 q), agO.cdW _ _ _ (by omega), ?_⟩
          show CdV _ 2 (if coF t len.toNat = -1 then _ else _)
          rw [if_pos hk1]
          exact Cd_cdW yC _ _ _ _ _ _ _ _ _
        · have hg1 := goodC_2 hgd hr1 hk1
          have hk2 : kk ≠ -1 := by omega
          refine ⟨cdW wr 2 3 4 (cdO 3 4 ((kk + 1) / 13) (len - kk - 1) sh ln pr gd co) (arO 48 (preF ((kk + 1) / 13 * 12) (dgc t) c)) (arO 6 (preF (len - kk - 1) (fun j => dgZ t (kk + 1 + j)) (preF 6 (inT ((kk + 1) / 13)) s))), c_writeTo wr 31 32 len kk t yX2 hR ⟨hr1, hr2⟩ 2 3 4 v p sh ln pr gd co c s yC (by decide) (by decide) (by omega) kk ((kk + 1) / 13) (by rw [if_neg hk2]) rfl ⟨by omega, hp, hsh, hln⟩ (fun _ => by omega) _ (fun q => absurd q hk2) (fun _ => rfl), agO.cdW _ _ _ (by omega), ?_⟩
          show CdV _ 2 (if coF t len.toNat = -1 then _ else _)
          rw [if_neg hk1, hkk]
          exact Cd_cdW yC _ _ _ _ _ _ _ _ _
    refine r_aload_n (pc2 := 31) dX4_read_30 rfl rfl ?_
    refine r_getf (pc2 := 34) dX4_read_31 rfl fl_4_51 (by assumption) (by assumption) (by rfl) ?_
    refine r_aload_n (pc2 := 35) dX4_read_34 rfl rfl ?_
    refine r_getf (pc2 := 38) dX4_read_35 rfl fl_4_20 (by assumption) (by assumption) (by rfl) ?_
    refine r_callv_1 (pc2 := 41) dX4_read_38 rfl rs_4_137 rfl (by decide) rfl (Nat.le_of_ble_eq_true rfl) (Nat.le_of_ble_eq_true rfl) (by assumption) (by assumption) hf (fun r_ w_ h_ => ?_)
    rw [h_.1, h_.2]
    clear h_ w_ r_
    obtain ⟨u1, u1w⟩ := hCf.cell
    have u0 : 0 < Wr.1 := by rw [gf.1]; exact y0
    have u0w := (gf.2 0 (by omega)).trans y0w
    refine ⟨gf.1, ?_⟩
    refine r_aload_n (pc2 := 42) dX4_read_41 rfl rfl ?_
    refine r_getf (pc2 := 45) dX4_read_42 rfl fl_4_20 (by assumption) (by assumption) (by rfl) ?_
    refine r_getf (pc2 := 48) dX4_read_45 rfl fl_4_78 (by assumption) (by assumption) (by rfl) ?_
    refine r_ret dX4_read_48 rfl ?_
    rcases hbg with hb | ⟨hb1, hgd, hkk⟩
    · exact absurd h10 hb.1
    · exact Or.inr ⟨hgd, rfl, ((g1.mono (by omega) (by omega)).trans (gr.mono (by omega) (by omega))).trans (gf.mono (by omega) (by omega)), CLS_card hr gf _ hCf⟩
  · refine r_sipush (pc2 := 16) dX4_read_13 rfl (by decide) ?_
    refine r_iload_n (pc2 := 17) dX4_read_16 rfl rfl ?_
    refine r_isub (pc2 := 18) dX4_read_17 rfl ?_
    refine r_ret dX4_read_18 rfl ?_
    rcases hbg with hb | hb
    · exact Or.inl ⟨x, hb.2, rfl, g1.mono (by omega) (by omega), h1⟩
    · exact absurd hb.1 h10

set_option maxHeartbeats 4000000 in
theorem c_type (w : av_W) (v p sh ln pr gd co : Int) (c s : Nat → Int) (L : Nat → CV) (n : Int) (S : CV) (hs len : Int) (t : Nat → Int) (h : CLS w (v, p, sh, ln, pr, gd, co, c, s) L n S hs len t) (hV : KV (v, p, sh, ln, pr, gd, co, c, s)) (hn : 0 ≤ n ∧ n ≤ 4) (hR : CR t) (hlen : 0 ≤ len ∧ len ≤ 80) (x : Int) (hx : 0 ≤ x ∧ x ≤ 65535) : cl MX4_type [.ref 0, .int (iN x)] w (fun r' w' => if 80 ≤ len then RC w w' r' (-103) (v, p, sh, ln, pr, gd, co, c, s) L n S hs len t else RC w w' r' (len + 1) (v, p, sh, ln, pr, gd, co, c, s) L n S hs (len + 1) (updZ t len.toNat (if x ≤ 255 then x else 0))) := by
  obtain ⟨x33, x0w, xC, ⟨xf, xg, xG⟩, ⟨xT, xTV⟩, ⟨xf2, xg2, xH⟩, ⟨xb, xB⟩, ⟨xq, xP⟩, xS, ⟨xk, xX⟩⟩ := id h
  have x0 : 0 < w.1 := by omega
  have xC : Cd w 2 3 4 v p sh ln pr gd co c s := xC
  obtain ⟨⟨x1, x1w⟩, -⟩ := id xC
  have x14 : 14 < w.1 := by omega
  have x14w := xP.1
  obtain ⟨⟨x31, x31w⟩, -⟩ := id xX
  obtain ⟨hr1, hr2⟩ := hlen
  show rn MX4_type 0 [some (.ref 0), some (.int (iN x))] [] w _
  refine r_aload_n (pc2 := 1) dX4_type_0 rfl rfl ?_
  refine r_getf (pc2 := 4) dX4_type_1 rfl fl_4_51 (by assumption) (by assumption) (by rfl) ?_
  refine r_callv_0 (pc2 := 7) dX4_type_4 rfl rs_4_153 rfl (by decide) rfl (Nat.le_of_ble_eq_true rfl) (Nat.le_of_ble_eq_true rfl) (by assumption) (by assumption) (c_isFull w 31 32 len xk t xX hR ⟨hr1, hr2⟩) (fun r_ w_ h_ => ?_)
  rw [h_.1, h_.2]
  clear h_ w_ r_
  refine ⟨rfl, ?_⟩
  refine r_ifb_eq (pc2 := 10) (tgt := 13) dX4_type_7 rfl (by decide)  (fun h7 => ?_) (fun h7 => ?_)
  · refine r_aload_n (pc2 := 14) dX4_type_13 rfl rfl ?_
    refine r_getf (pc2 := 17) dX4_type_14 rfl fl_4_51 (by assumption) (by assumption) (by rfl) ?_
    refine r_iload_n (pc2 := 18) dX4_type_17 rfl rfl ?_
    refine r_callv_1 (pc2 := 21) dX4_type_18 rfl rs_4_157 rfl (by decide) rfl (Nat.le_of_ble_eq_true rfl) (Nat.le_of_ble_eq_true rfl) (by assumption) (by assumption) (c_append w 31 32 len xk t xX hR ⟨hr1, hr2⟩ x hx (by omega)) (fun r_ w_ h_ => ?_)
    rw [h_.1, h_.2]
    clear h_ w_ r_
    refine ⟨rfl, ?_⟩
    have gu : agO 31 33 w (wst (wst w 32 (chO 80 (updZ t len.toNat (if x ≤ 255 then x else 0)))) 31 (txO 32 (len + 1) xk)) := (agO.wst _ (by omega)).trans (agO.wst _ (by omega))
    have u0 : 0 < (wst (wst w 32 (chO 80 (updZ t len.toNat (if x ≤ 255 then x else 0)))) 31 (txO 32 (len + 1) xk)).1 := x0
    have u0w := (gu.2 0 (by omega)).trans x0w
    have u31 : 31 < (wst (wst w 32 (chO 80 (updZ t len.toNat (if x ≤ 255 then x else 0)))) 31 (txO 32 (len + 1) xk)).1 := x31
    have u31w : (wst (wst w 32 (chO 80 (updZ t len.toNat (if x ≤ 255 then x else 0)))) 31 (txO 32 (len + 1) xk)).2.2 31 = txO 32 (len + 1) xk := wst_self
    refine r_aload_n (pc2 := 22) dX4_type_21 rfl rfl ?_
    refine r_getf (pc2 := 25) dX4_type_22 rfl fl_4_51 (by assumption) (by assumption) (by rfl) ?_
    refine r_getf (pc2 := 28) dX4_type_25 rfl fl_4_161 (by assumption) (by assumption) (by rfl) ?_
    refine r_ret dX4_type_28 rfl ?_
    rw [if_neg (by omega)]
    exact ⟨rfl, gu.mono (by omega) (by omega), CLS_text h gu _ _ ⟨_, ⟨⟨x31, wst_self⟩, ⟨xX.2.1.1, by rw [wst_ne (by decide)]; exact wst_self⟩, xX.2.2⟩⟩⟩
  · refine r_bipush (pc2 := 12) dX4_type_10 rfl (by decide) ?_
    refine r_ret dX4_type_12 rfl ?_
    rw [if_pos (by omega)]
    exact ⟨rfl, agO.rf, h⟩

set_option maxHeartbeats 4000000 in
theorem c_clearText (w : av_W) (v p sh ln pr gd co : Int) (c s : Nat → Int) (L : Nat → CV) (n : Int) (S : CV) (hs len : Int) (t : Nat → Int) (h : CLS w (v, p, sh, ln, pr, gd, co, c, s) L n S hs len t) (hV : KV (v, p, sh, ln, pr, gd, co, c, s)) (hn : 0 ≤ n ∧ n ≤ 4) (hR : CR t) (hlen : 0 ≤ len ∧ len ≤ 80) : cl MX4_clearText [.ref 0] w (fun r' w' => RC w w' r' len (v, p, sh, ln, pr, gd, co, c, s) L n S hs 0 t) := by
  obtain ⟨x33, x0w, xC, ⟨xf, xg, xG⟩, ⟨xT, xTV⟩, ⟨xf2, xg2, xH⟩, ⟨xb, xB⟩, ⟨xq, xP⟩, xS, ⟨xk, xX⟩⟩ := id h
  have x0 : 0 < w.1 := by omega
  have xC : Cd w 2 3 4 v p sh ln pr gd co c s := xC
  obtain ⟨⟨x1, x1w⟩, -⟩ := id xC
  have x14 : 14 < w.1 := by omega
  have x14w := xP.1
  obtain ⟨⟨x31, x31w⟩, -⟩ := id xX
  obtain ⟨hr1, hr2⟩ := hlen
  show rn MX4_clearText 0 [some (.ref 0), none] [] w _
  refine r_aload_n (pc2 := 1) dX4_clearText_0 rfl rfl ?_
  refine r_getf (pc2 := 4) dX4_clearText_1 rfl fl_4_51 (by assumption) (by assumption) (by rfl) ?_
  refine r_getf (pc2 := 7) dX4_clearText_4 rfl fl_4_161 (by assumption) (by assumption) (by rfl) ?_
  refine r_ist_1 (pc2 := 8) dX4_clearText_7 rfl rfl ?_
  refine r_aload_n (pc2 := 9) dX4_clearText_8 rfl rfl ?_
  refine r_getf (pc2 := 12) dX4_clearText_9 rfl fl_4_51 (by assumption) (by assumption) (by rfl) ?_
  refine r_callv_0 (pc2 := 15) dX4_clearText_12 rfl rs_4_164 rfl (by decide) rfl (Nat.le_of_ble_eq_true rfl) (Nat.le_of_ble_eq_true rfl) (by assumption) (by assumption) (c_empty w 31 32 len xk x31 x31w) (fun r_ w_ h_ => ?_)
  rw [h_.1, h_.2]
  clear h_ w_ r_
  refine ⟨rfl, ?_⟩
  refine r_iload_n (pc2 := 16) dX4_clearText_15 rfl rfl ?_
  refine r_ret dX4_clearText_16 rfl ?_
  have gu : agO 31 33 w (wst w 31 (txO 32 0 xk)) := agO.wst _ (by omega)
  exact ⟨rfl, gu.mono (by omega) (by omega), CLS_text h gu _ _ ⟨_, ⟨⟨x31, wst_self⟩, ⟨xX.2.1.1, by rw [wst_ne (by decide)]; exact xX.2.1.2⟩, xX.2.2⟩⟩⟩

theorem CLS_undo {w w2 : av_W} {V V2 : CV} {L : Nat → CV} {n n2 : Int} {S : CV} {hs len : Int} {t : Nat → Int} {q : Nat} (h0 : CLS w V L n S hs len t) (g : agO 2 28 w w2) (g2 : ∀ k : Nat, 5 ≤ k → k < 14 → w2.2.2 k = w.2.2 k) (hH : HsP w2 q n2 L) (hV : CdV w2 2 V2) : CLS w2 V2 L n2 S hs len t := by
  obtain ⟨a0, a1, a2, ⟨f3, g3, a3⟩, ⟨f4, a4⟩, ⟨f5, g5, a5⟩, ⟨f6, a6⟩, ⟨f7, a7⟩, a8, ⟨f9, a9⟩⟩ := h0
  obtain ⟨⟨b1, b2⟩, ⟨b3, b4⟩, ⟨b5, b6⟩, b7⟩ := a3
  obtain ⟨⟨c1, c2⟩, ⟨c3, c4⟩, ⟨c5, c6⟩, c7⟩ := a4
  obtain ⟨⟨d1, d2⟩, ⟨d3, d4⟩, ⟨d5, d6⟩, d7⟩ := a5
  have e := g.1
  exact ⟨by omega, (g.2 0 (by omega)).trans a1, hV, ⟨_, _, ⟨by omega, (g.2 1 (by omega)).trans b2⟩, ⟨by omega, (g2 5 (by omega) (by omega)).trans b4⟩, ⟨by omega, (g2 6 (by omega) (by omega)).trans b6⟩, b7⟩, ⟨_, ⟨by omega, (g2 8 (by omega) (by omega)).trans c2⟩, ⟨by omega, (g2 9 (by omega) (by omega)).trans c4⟩, ⟨by omega, (g2 10 (by omega) (by omega)).trans c6⟩, c7⟩, ⟨_, _, ⟨by omega, (g2 7 (by omega) (by omega)).trans d2⟩, ⟨by omega, (g2 11 (by omega) (by omega)).trans d4⟩, ⟨by omega, (g2 12 (by omega) (by omega)).trans d6⟩, d7⟩, ⟨_, (g2 13 (by omega) (by omega)).trans a6⟩, ⟨_, hH⟩, a8.ag g (by omega), ⟨_, a9.ag g (by omega) (by omega)⟩⟩
