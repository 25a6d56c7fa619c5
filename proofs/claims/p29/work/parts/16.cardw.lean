/-! the class's Card: what writes it -/
theorem Cd.col {w : av_W} {a ca sa : Nat} {v p sh ln pr gd co : Int} {c s : Nat → Int} (h : Cd w a ca sa v p sh ln pr gd co c s) (c2 : Nat → Int) : Cd (wst w ca (arO 48 c2)) a ca sa v p sh ln pr gd co c2 s := by
  obtain ⟨⟨ha, hw⟩, ⟨hca, hcw⟩, ⟨hsa, hsw⟩, h1, h2, h3⟩ := h
  exact ⟨⟨ha, by rw [wst_ne h1]; exact hw⟩, ⟨hca, wst_self⟩, ⟨hsa, by rw [wst_ne (fun q => h3 q.symm)]; exact hsw⟩, h1, h2, h3⟩
theorem Cd.slc {w : av_W} {a ca sa : Nat} {v p sh ln pr gd co : Int} {c s : Nat → Int} (h : Cd w a ca sa v p sh ln pr gd co c s) (s2 : Nat → Int) : Cd (wst w sa (arO 6 s2)) a ca sa v p sh ln pr gd co c s2 := by
  obtain ⟨⟨ha, hw⟩, ⟨hca, hcw⟩, ⟨hsa, hsw⟩, h1, h2, h3⟩ := h
  exact ⟨⟨ha, by rw [wst_ne h2]; exact hw⟩, ⟨hca, by rw [wst_ne h3]; exact hcw⟩, ⟨hsa, wst_self⟩, h1, h2, h3⟩
theorem Cd.obj {w : av_W} {a ca sa : Nat} {v p sh ln pr gd co : Int} {c s : Nat → Int} (h : Cd w a ca sa v p sh ln pr gd co c s) (v2 p2 sh2 ln2 pr2 gd2 co2 : Int) : Cd (wst w a (cdO ca sa v2 p2 sh2 ln2 pr2 gd2 co2)) a ca sa v2 p2 sh2 ln2 pr2 gd2 co2 c s := by
  obtain ⟨⟨ha, hw⟩, ⟨hca, hcw⟩, ⟨hsa, hsw⟩, h1, h2, h3⟩ := h
  exact ⟨⟨ha, wst_self⟩, ⟨hca, by rw [wst_ne (fun q => h1 q.symm)]; exact hcw⟩, ⟨hsa, by rw [wst_ne (fun q => h2 q.symm)]; exact hsw⟩, h1, h2, h3⟩
theorem Cd.out {w : av_W} {a ca sa : Nat} {v p sh ln pr gd co : Int} {c s : Nat → Int} (h : Cd w a ca sa v p sh ln pr gd co c s) {b : Nat} (e : av_E) (h1 : a ≠ b) (h2 : ca ≠ b) (h3 : sa ≠ b) : Cd (wst w b e) a ca sa v p sh ln pr gd co c s := by
  obtain ⟨⟨ha, hw⟩, ⟨hca, hcw⟩, ⟨hsa, hsw⟩, g⟩ := h
  exact ⟨⟨ha, by rw [wst_ne h1]; exact hw⟩, ⟨hca, by rw [wst_ne h2]; exact hcw⟩, ⟨hsa, by rw [wst_ne h3]; exact hsw⟩, g⟩
theorem updZ_id (c : Nat → Int) (k : Nat) : updZ c k (c k) = c := by
  funext j
  unfold updZ
  by_cases h : j = k
  · rw [if_pos h, h]
  · rw [if_neg h]
/-- a stretch of a row is set -/
def rgF (lo k : Int) (f g : Nat → Int) : Nat → Int := fun j => if lo ≤ (j : Int) ∧ (j : Int) < lo + k then f j else g j
theorem rgF_0 (lo : Int) (f g : Nat → Int) : rgF lo 0 f g = g := by
  funext j
  exact if_neg (by omega)
theorem rgF_step {lo k : Int} (hl : 0 ≤ lo) (hk : 0 ≤ k) (f g : Nat → Int) : updZ (rgF lo k f g) (lo + k).toNat (f (lo + k).toNat) = rgF lo (k + 1) f g := by
  funext j
  unfold updZ rgF
  by_cases h : j = (lo + k).toNat
  · subst h
    rw [if_pos rfl, if_pos (by omega)]
  · rw [if_neg h]
    by_cases h2 : lo ≤ (j : Int) ∧ (j : Int) < lo + k
    · rw [if_pos h2, if_pos (by omega)]
    · rw [if_neg h2, if_neg (by omega)]
theorem rgF_out {lo k : Int} {f g : Nat → Int} {j : Nat} (h : ¬ (lo ≤ (j : Int) ∧ (j : Int) < lo + k)) : rgF lo k f g j = g j := if_neg h
theorem rgF_in {lo k : Int} {f g : Nat → Int} {j : Nat} (h : lo ≤ (j : Int) ∧ (j : Int) < lo + k) : rgF lo k f g j = f j := if_pos h
/-- sums -/
def sm : Nat → (Nat → Int) → Int
  | 0, _ => 0
  | n + 1, f => sm n f + f n
theorem sm_step {k : Int} (hk : 0 ≤ k) (f : Nat → Int) : sm (k + 1).toNat f = sm k.toNat f + f k.toNat := by
  rw [show (k + 1).toNat = k.toNat + 1 by omega]
  rfl
theorem sm_congr {n : Nat} {f g : Nat → Int} (h : ∀ j, j < n → f j = g j) : sm n f = sm n g := by
  induction n with
  | zero => rfl
  | succ n ih =>
    show sm n f + f n = sm n g + g n
    rw [ih (fun j hj => h j (by omega)), h n (by omega)]
theorem sm_rg {n : Nat} {f : Nat → Int} {L H : Int} (h : ∀ j, j < n → L ≤ f j ∧ f j ≤ H) : n * L ≤ sm n f ∧ sm n f ≤ n * H := by
  induction n with
  | zero => simp [sm]
  | succ n ih =>
    have h1 := ih (fun j hj => h j (by omega))
    have h2 := h n (by omega)
    have e1 : ((n + 1 : Nat) : Int) * L = n * L + L := by rw [Int.natCast_add, Int.add_mul]; simp
    have e2 : ((n + 1 : Nat) : Int) * H = n * H + H := by rw [Int.natCast_add, Int.add_mul]; simp
    rw [e1, e2]
    show n * L + L ≤ sm n f + f n ∧ sm n f + f n ≤ n * H + H
    omega
theorem bz_rg {c : Prop} [Decidable c] : 0 ≤ bz c ∧ bz c ≤ 1 := by
  unfold bz
  split <;> omega
theorem tn {k : Int} (h : 0 ≤ k) : ((k.toNat : Nat) : Int) = k := Int.toNat_of_nonneg h
/-- a row of views that come in turn -/
def inT (v : Int) : Nat → Int := fun j => (j : Int) % v

set_option maxHeartbeats 4000000 in
theorem c_resetSlices (w : av_W) (a ca sa : Nat) (v p sh ln pr gd co : Int) (c s : Nat → Int) (hC : Cd w a ca sa v p sh ln pr gd co c s) (hK : KR v p sh ln) : fn MX0_resetSlices [.ref a] w none (wst w sa (arO 6 (preF 6 (inT v) s))) := by
  obtain ⟨⟨ha, hw⟩, ⟨hca, hcw⟩, ⟨hsa, hsw⟩, hne1, hne2, hne3⟩ := id hC
  obtain ⟨hv, hp, hsh, hln⟩ := id hK
  try unfold RG at *
  show rn MX0_resetSlices 0 [some (.ref a), none, none] [] w (fun r' w' => r' = none ∧ w' = (wst w sa (arO 6 (preF 6 (inT v) s))))
  have loop : ∀ (n : Nat) (k : Int) (x : Int), (0 ≤ k ∧ k ≤ 6 ∧ 7 ≤ k + n) → (x = k % v) → rn MX0_resetSlices 4 [some (.ref a), some (.int (iN x)), some (.int (iN k))] [] (wst w sa (arO 6 (preF k (inT v) s))) (fun r' w' => r' = none ∧ w' = (wst w sa (arO 6 (preF 6 (inT v) s)))) := by
    intro n
    induction n with
    | zero =>
      intro k x hk0 hk1
      exfalso
      omega
    | succ n ih =>
      intro k x hk0 hk1
      have hx0 : 0 ≤ x ∧ x < v := by
        have h1 := Int.emod_nonneg k (show v ≠ 0 by omega)
        have h2 := Int.emod_lt_of_pos k (show 0 < v by omega)
        omega
      have hq := (hC.slc (preF k (inT v) s))
      have hqa := hq.1
      obtain ⟨hqa, hqw⟩ := hq.1
      obtain ⟨hqs, hqz⟩ := hq.2.2.1
      have hst : updZ (preF k (inT v) s) k.toNat x = preF (k + 1) (inT v) s := by
        rw [← preF_step hk0.1 (inT v) s]
        unfold inT
        rw [tn hk0.1, hk1]
      refine r_iload_n (pc2 := 5) dX0_resetSlices_4 rfl rfl ?_
      refine r_bipush (pc2 := 7) dX0_resetSlices_5 rfl (by decide) ?_
      refine r_icmp_ge (pc2 := 10) (tgt := 41) dX0_resetSlices_7 rfl (by decide) (by omega) (by omega) (fun h7 => ?_) (fun h7 => ?_)
      · have h6 : k = 6 := by omega
        subst h6
        refine r_retv dX0_resetSlices_41 rfl ?_
        exact ⟨rfl, rfl⟩
      · refine r_aload_n (pc2 := 11) dX0_resetSlices_10 rfl rfl ?_
        refine r_getf (pc2 := 14) dX0_resetSlices_11 rfl fl_0_22 (by assumption) (by assumption) (by rfl) ?_
        refine r_iload_n (pc2 := 15) dX0_resetSlices_14 rfl rfl ?_
        refine r_iload_n (pc2 := 16) dX0_resetSlices_15 rfl rfl ?_
        refine r_iast (pc2 := 17) dX0_resetSlices_16 rfl (by assumption) (by assumption) (by omega) (by omega) (by omega) ?_
        rw [wst_wst, hst]
        obtain ⟨hra, hrw⟩ := (hC.slc (preF (k + 1) (inT v) s)).1
        refine r_iload_n (pc2 := 18) dX0_resetSlices_17 rfl rfl ?_
        refine r_iconst (pc2 := 19) dX0_resetSlices_18 rfl ?_
        refine r_iadd (pc2 := 20) dX0_resetSlices_19 rfl ?_
        refine r_aload_n (pc2 := 21) dX0_resetSlices_20 rfl rfl ?_
        refine r_getf (pc2 := 24) dX0_resetSlices_21 rfl fl_0_9 (by assumption) (by assumption) (by rfl) ?_
        refine r_icmp_ge (pc2 := 27) (tgt := 33) dX0_resetSlices_24 rfl (by decide) (by omega) (by omega) (fun h24 => ?_) (fun h24 => ?_)
        · have hx2 : (0 : Int) = (k + 1) % v := by
            have h3 : x + 1 = v := by omega
            rw [Int.add_emod, ← hk1, Int.emod_eq_of_lt (a := 1) (by omega) (by omega), h3, Int.emod_self]
          refine r_iconst (pc2 := 34) dX0_resetSlices_33 rfl ?_
          refine r_ist_1 (pc2 := 35) dX0_resetSlices_34 rfl rfl ?_
          refine r_iinc_2 (pc2 := 38) dX0_resetSlices_35 rfl rfl ?_
          refine r_goto (tgt := 4) dX0_resetSlices_38 (by decide) ?_
          exact ih (k + 1) _ (by omega) hx2
        · have hx2 : x + 1 = (k + 1) % v := by
            rw [Int.add_emod, ← hk1, Int.emod_eq_of_lt (a := 1) (by omega) (by omega), Int.emod_eq_of_lt (by omega) (by omega)]
          refine r_iload_n (pc2 := 28) dX0_resetSlices_27 rfl rfl ?_
          refine r_iconst (pc2 := 29) dX0_resetSlices_28 rfl ?_
          refine r_iadd (pc2 := 30) dX0_resetSlices_29 rfl ?_
          refine r_goto (tgt := 34) dX0_resetSlices_30 (by decide) ?_
          refine r_ist_1 (pc2 := 35) dX0_resetSlices_34 rfl rfl ?_
          refine r_iinc_2 (pc2 := 38) dX0_resetSlices_35 rfl rfl ?_
          refine r_goto (tgt := 4) dX0_resetSlices_38 (by decide) ?_
          exact ih (k + 1) _ (by omega) hx2
  refine r_iconst (pc2 := 1) dX0_resetSlices_0 rfl ?_
  refine r_ist_1 (pc2 := 2) dX0_resetSlices_1 rfl rfl ?_
  refine r_iconst (pc2 := 3) dX0_resetSlices_2 rfl ?_
  refine r_ist_2 (pc2 := 4) dX0_resetSlices_3 rfl rfl ?_
  have := loop 7 0 0 (by omega) (Int.zero_emod v).symm
  rw [preF_0, wst_id hsw] at this
  exact this

set_option maxHeartbeats 4000000 in
theorem c_copyNumbers (w : av_W) (b1 b2 n2 : Nat) (f t : Nat → Int) (h1 : b1 < w.1) (h1w : w.2.2 b1 = arO n2 f) (h2 : b2 < w.1) (h2w : w.2.2 b2 = arO n2 t) (hne : b1 ≠ b2) (hn2 : n2 ≤ 1000) : fn MX4_copyNumbers [.ref b1, .ref b2] w none (wst w b2 (arO n2 (preF n2 f t))) := by
  show rn MX4_copyNumbers 0 [some (.ref b1), some (.ref b2), none] [] w (fun r' w' => r' = none ∧ w' = (wst w b2 (arO n2 (preF n2 f t))))
  have loop : ∀ (n : Nat) (k : Int), (0 ≤ k ∧ k ≤ n2 ∧ n2 + 1 ≤ k + n) → rn MX4_copyNumbers 2 [some (.ref b1), some (.ref b2), some (.int (iN k))] [] (wst w b2 (arO n2 (preF k f t))) (fun r' w' => r' = none ∧ w' = (wst w b2 (arO n2 (preF n2 f t)))) := by
    intro n
    induction n with
    | zero =>
      intro k hk0
      exfalso
      omega
    | succ n ih =>
      intro k hk0
      have hq1 : b1 < (wst w b2 (arO n2 (preF k f t))).1 := h1
      have hq1w : (wst w b2 (arO n2 (preF k f t))).2.2 b1 = arO n2 f := by rw [wst_ne hne]; exact h1w
      have hq2 : b2 < (wst w b2 (arO n2 (preF k f t))).1 := h2
      have hq2w : (wst w b2 (arO n2 (preF k f t))).2.2 b2 = arO n2 (preF k f t) := wst_self
      refine r_iload_n (pc2 := 3) dX4_copyNumbers_2 rfl rfl ?_
      refine r_aload_n (pc2 := 4) dX4_copyNumbers_3 rfl rfl ?_
      refine r_alen (pc2 := 5) dX4_copyNumbers_4 rfl (by decide) (by assumption) (by assumption) ?_
      refine r_icmp_ge (pc2 := 8) (tgt := 26) dX4_copyNumbers_5 rfl (by decide) (by omega) (by omega) (fun h5 => ?_) (fun h5 => ?_)
      · have h6 : k = n2 := by omega
        subst h6
        refine r_retv dX4_copyNumbers_26 rfl ?_
        exact ⟨rfl, rfl⟩
      · refine r_iload_n (pc2 := 9) dX4_copyNumbers_8 rfl rfl ?_
        refine r_aload_n (pc2 := 10) dX4_copyNumbers_9 rfl rfl ?_
        refine r_alen (pc2 := 11) dX4_copyNumbers_10 rfl (by decide) (by assumption) (by assumption) ?_
        refine r_icmp_ge (pc2 := 14) (tgt := 26) dX4_copyNumbers_11 rfl (by decide) (by omega) (by omega) (fun h11 => ?_) (fun h11 => ?_)
        · exfalso
          omega
        · refine r_aload_n (pc2 := 15) dX4_copyNumbers_14 rfl rfl ?_
          refine r_iload_n (pc2 := 16) dX4_copyNumbers_15 rfl rfl ?_
          refine r_aload_n (pc2 := 17) dX4_copyNumbers_16 rfl rfl ?_
          refine r_iload_n (pc2 := 18) dX4_copyNumbers_17 rfl rfl ?_
          refine r_iald (pc2 := 19) dX4_copyNumbers_18 rfl (by decide) (by assumption) (by assumption) (by omega) (by omega) (by omega) ?_
          refine r_iast (pc2 := 20) dX4_copyNumbers_19 rfl (by assumption) (by assumption) (by omega) (by omega) (by omega) ?_
          rw [wst_wst, preF_step hk0.1]
          refine r_iinc_2 (pc2 := 23) dX4_copyNumbers_20 rfl rfl ?_
          refine r_goto (tgt := 2) dX4_copyNumbers_23 (by decide) ?_
          exact ih (k + 1) (by omega)
  refine r_iconst (pc2 := 1) dX4_copyNumbers_0 rfl ?_
  refine r_ist_2 (pc2 := 2) dX4_copyNumbers_1 rfl rfl ?_
  have := loop (n2 + 1) 0 (by omega)
  rw [preF_0, wst_id h2w] at this
  exact this
