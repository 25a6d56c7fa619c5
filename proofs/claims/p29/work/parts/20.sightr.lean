/-! the Sight of a card: what is read of it -/
abbrev vS (s f : Nat → Int) (st r : Int) : Int := sD s (f (st * 12 + r).toNat)
abbrev ghC (s f : Nat → Int) (st r : Int) : Prop := (0 < r ∧ vS s f st (r - 1) ≠ vS s f st r) ∨ (r < 11 ∧ vS s f st (r + 1) ≠ vS s f st r)
def ghF (s f : Nat → Int) (st : Int) : Int := sm 12 (fun r => bz (ghC s f st r))
def rsF (s f : Nat → Int) (st x : Int) : Int := sm 12 (fun r => bz (vS s f st r = x))
def whF (s f : Nat → Int) (st : Int) : Int := if rsF s f st (vS s f st 0) = 12 then vS s f st 0 else -1
def gaF (p : Int) (s f g : Nat → Int) : Int := sm p.toNat (fun st => g st * ghF s f st)
def mvF (s f : Nat → Int) (st : Int) : Nat → Int × Int
  | 0 => (0, -1)
  | n + 1 => if (mvF s f st n).1 < rsF s f st n then (rsF s f st n, n) else mvF s f st n
def asF (p : Int) (s f g : Nat → Int) (x : Int) : Int := sm p.toNat (fun st => if whF s f st = x then g st else 0)
def wvF (p v : Int) (s f g : Nat → Int) : Int := sm v.toNat (fun x => bz (0 < asF p s f g x))
/-- clearest angle, ridges, ghosts -/
def clF (p : Int) (s f : Nat → Int) (x : Int) : Nat → Int × Int × Int
  | 0 => (-9, -1, 0)
  | n + 1 => if (clF p s f x n).2.1 < rsF s f (stZ p ((n : Int) - 9)) x ∨ (rsF s f (stZ p ((n : Int) - 9)) x = (clF p s f x n).2.1 ∧ ghF s f (stZ p ((n : Int) - 9)) < (clF p s f x n).2.2) then ((n : Int) - 9, rsF s f (stZ p ((n : Int) - 9)) x, ghF s f (stZ p ((n : Int) - 9))) else clF p s f x n
theorem ghF_rg (s f : Nat → Int) (st : Int) : 0 ≤ ghF s f st ∧ ghF s f st ≤ 12 := by
  have h := sm_rg (n := 12) (f := fun r => bz (ghC s f st (r : Int))) (L := 0) (H := 1) (fun j _ => bz_rg)
  unfold ghF
  omega
theorem rsF_rg (s f : Nat → Int) (st x : Int) : 0 ≤ rsF s f st x ∧ rsF s f st x ≤ 12 := by
  have h := sm_rg (n := 12) (f := fun r => bz (vS s f st (r : Int) = x)) (L := 0) (H := 1) (fun j _ => bz_rg)
  unfold rsF
  omega
theorem vS_rg {s f : Nat → Int} (hS : SR s) (st r : Int) : -1 ≤ vS s f st r ∧ vS s f st r ≤ 3 := sD_rg (fun j hj => ⟨by have := hS j hj; omega, (hS j hj).2⟩) (by omega) (by omega) _
theorem whF_rg {s f : Nat → Int} (hS : SR s) (st : Int) : -1 ≤ whF s f st ∧ whF s f st ≤ 3 := by
  have := vS_rg (f := f) hS st 0
  unfold whF
  split <;> omega
theorem mvF_rg (s f : Nat → Int) (st : Int) (n : Nat) : (0 ≤ (mvF s f st n).1 ∧ (mvF s f st n).1 ≤ 12) ∧ (-1 ≤ (mvF s f st n).2 ∧ (mvF s f st n).2 < n) := by
  induction n with
  | zero => simp [mvF]
  | succ n ih =>
    unfold mvF
    have := rsF_rg s f st n
    split
    · dsimp only
      omega
    · omega
theorem clF_rg (p : Int) (s f : Nat → Int) (x : Int) (n : Nat) (hn : n ≤ 19) : (-9 ≤ (clF p s f x n).1 ∧ (clF p s f x n).1 ≤ 9) ∧ (-1 ≤ (clF p s f x n).2.1 ∧ (clF p s f x n).2.1 ≤ 12) ∧ (0 ≤ (clF p s f x n).2.2 ∧ (clF p s f x n).2.2 ≤ 12) := by
  induction n with
  | zero => simp [clF]
  | succ n ih =>
    unfold clF
    have h1 := rsF_rg s f (stZ p ((n : Int) - 9)) x
    have h2 := ghF_rg s f (stZ p ((n : Int) - 9))
    have h3 := ih (by omega)
    split
    · dsimp only
      omega
    · exact h3
theorem asF_rg {p : Int} (hp : 2 ≤ p ∧ p ≤ 6) {s f g : Nat → Int} (hg : ∀ j, j < 6 → 0 ≤ g j ∧ g j ≤ 19) (x : Int) : 0 ≤ asF p s f g x ∧ asF p s f g x ≤ 114 := by
  have h := sm_rg (n := p.toNat) (f := fun st => if whF s f (st : Int) = x then g st else 0) (L := 0) (H := 19) (fun j hj => by
    have := hg j (by omega)
    split <;> omega)
  unfold asF
  omega

set_option maxHeartbeats 4000000 in
theorem c_viewSeen (w : av_W) (a ca sa : Nat) (v p sh ln pr gd co : Int) (c s : Nat → Int) (hC : Cd w a ca sa v p sh ln pr gd co c s) (hK : KR v p sh ln) (hS : SR s) (b ka sb : Nat) (f g : Nat → Int) (hG : Sg w a b ka sb f g) (hF : ∀ j, j < 72 → -1 ≤ f j ∧ f j ≤ 5) (x y : Int) (hx : 0 ≤ x ∧ x ≤ 5) (hy : 0 ≤ y ∧ y ≤ 11) : fn MX3_viewSeen [.ref b, .int (iN x), .int (iN y)] w (some (.int (iN (vS s f x y)))) w := by
  obtain ⟨⟨ha, hw⟩, ⟨hca, hcw⟩, ⟨hsa, hsw⟩, hne1, hne2, hne3⟩ := id hC
  obtain ⟨hv, hp, hsh, hln⟩ := id hK
  obtain ⟨⟨hb, hbw⟩, ⟨hka, hkw⟩, ⟨hsb, hzw⟩, hng1, hng2, hng3⟩ := id hG
  try unfold RG at *
  show rn MX3_viewSeen 0 [some (.ref b), some (.int (iN x)), some (.int (iN y))] [] w _
  refine r_iload_n (pc2 := 1) dX3_viewSeen_0 rfl rfl ?_
  refine r_if_lt (pc2 := 4) (tgt := 20) dX3_viewSeen_1 rfl (by decide) (by omega) (fun h1 => ?_) (fun h1 => ?_)
  · exfalso
    omega
  · refine r_iload_n (pc2 := 5) dX3_viewSeen_4 rfl rfl ?_
    refine r_bipush (pc2 := 7) dX3_viewSeen_5 rfl (by decide) ?_
    refine r_icmp_ge (pc2 := 10) (tgt := 20) dX3_viewSeen_7 rfl (by decide) (by omega) (by omega) (fun h7 => ?_) (fun h7 => ?_)
    · exfalso
      omega
    · refine r_iload_n (pc2 := 11) dX3_viewSeen_10 rfl rfl ?_
      refine r_if_lt (pc2 := 14) (tgt := 20) dX3_viewSeen_11 rfl (by decide) (by omega) (fun h11 => ?_) (fun h11 => ?_)
      · exfalso
        omega
      · refine r_iload_n (pc2 := 15) dX3_viewSeen_14 rfl rfl ?_
        refine r_bipush (pc2 := 17) dX3_viewSeen_15 rfl (by decide) ?_
        refine r_icmp_lt (pc2 := 20) (tgt := 22) dX3_viewSeen_17 rfl (by decide) (by omega) (by omega) (fun h17 => ?_) (fun h17 => ?_)
        · refine r_aload_n (pc2 := 23) dX3_viewSeen_22 rfl rfl ?_
          refine r_getf (pc2 := 26) dX3_viewSeen_23 rfl fl_3_12 (by assumption) (by assumption) (by rfl) ?_
          refine r_aload_n (pc2 := 27) dX3_viewSeen_26 rfl rfl ?_
          refine r_getf (pc2 := 30) dX3_viewSeen_27 rfl fl_3_18 (by assumption) (by assumption) (by rfl) ?_
          refine r_iload_n (pc2 := 31) dX3_viewSeen_30 rfl rfl ?_
          refine r_bipush (pc2 := 33) dX3_viewSeen_31 rfl (by decide) ?_
          refine r_imul (pc2 := 34) dX3_viewSeen_33 rfl ?_
          refine r_iload_n (pc2 := 35) dX3_viewSeen_34 rfl rfl ?_
          refine r_iadd (pc2 := 36) dX3_viewSeen_35 rfl ?_
          refine r_iald (pc2 := 37) dX3_viewSeen_36 rfl (by decide) (by assumption) (by assumption) (by omega) (by omega) (by omega) ?_
          have hfj := hF (x * 12 + y).toNat (by omega)
          refine r_callv_1 (pc2 := 40) dX3_viewSeen_37 rfl rs_3_40 rfl (by decide) rfl (Nat.le_of_ble_eq_true rfl) (Nat.le_of_ble_eq_true rfl) (by assumption) (by assumption) (c_viewDue _ a ca sa v p sh ln pr gd co c s hC hK (f (x * 12 + y).toNat) (by unfold RG; omega)) (fun r_ w_ h_ => ?_)
          rw [h_.1, h_.2]
          clear h_ w_ r_
          refine ⟨rfl, ?_⟩
          refine r_ret dX3_viewSeen_40 rfl ?_
          exact ⟨rfl, rfl⟩
        · exfalso
          omega

set_option maxHeartbeats 4000000 in
theorem c_isGhost (w : av_W) (a ca sa : Nat) (v p sh ln pr gd co : Int) (c s : Nat → Int) (hC : Cd w a ca sa v p sh ln pr gd co c s) (hK : KR v p sh ln) (hS : SR s) (b ka sb : Nat) (f g : Nat → Int) (hG : Sg w a b ka sb f g) (hF : ∀ j, j < 72 → -1 ≤ f j ∧ f j ≤ 5) (x y : Int) (hx : 0 ≤ x ∧ x ≤ 5) (hy : 0 ≤ y ∧ y ≤ 11) : fn MX3_isGhost [.ref b, .int (iN x), .int (iN y)] w (some (.int (iN (bz (ghC s f x y))))) w := by
  obtain ⟨⟨ha, hw⟩, ⟨hca, hcw⟩, ⟨hsa, hsw⟩, hne1, hne2, hne3⟩ := id hC
  obtain ⟨hv, hp, hsh, hln⟩ := id hK
  obtain ⟨⟨hb, hbw⟩, ⟨hka, hkw⟩, ⟨hsb, hzw⟩, hng1, hng2, hng3⟩ := id hG
  try unfold RG at *
  have g0 := vS_rg (f := f) hS x y
  have g1 := vS_rg (f := f) hS x (y - 1)
  have g2 := vS_rg (f := f) hS x (y + 1)
  show rn MX3_isGhost 0 [some (.ref b), some (.int (iN x)), some (.int (iN y)), none] [] w _
  refine r_aload_n (pc2 := 1) dX3_isGhost_0 rfl rfl ?_
  refine r_iload_n (pc2 := 2) dX3_isGhost_1 rfl rfl ?_
  refine r_iload_n (pc2 := 3) dX3_isGhost_2 rfl rfl ?_
  refine r_callv_2 (pc2 := 6) dX3_isGhost_3 rfl rs_3_43 rfl (by decide) rfl (Nat.le_of_ble_eq_true rfl) (Nat.le_of_ble_eq_true rfl) (by assumption) (by assumption) (c_viewSeen _ a ca sa v p sh ln pr gd co c s hC hK hS b ka sb f g hG hF x y (by omega) (by omega)) (fun r_ w_ h_ => ?_)
  rw [h_.1, h_.2]
  clear h_ w_ r_
  refine ⟨rfl, ?_⟩
  refine r_ist_3 (pc2 := 7) dX3_isGhost_6 rfl rfl ?_
  refine r_iload_n (pc2 := 8) dX3_isGhost_7 rfl rfl ?_
  refine r_if_le (pc2 := 11) (tgt := 23) dX3_isGhost_8 rfl (by decide) (by omega) (fun h8 => ?_) (fun h8 => ?_)
  · refine r_iload_n (pc2 := 24) dX3_isGhost_23 rfl rfl ?_
    refine r_bipush (pc2 := 26) dX3_isGhost_24 rfl (by decide) ?_
    refine r_icmp_ge (pc2 := 29) (tgt := 45) dX3_isGhost_26 rfl (by decide) (by omega) (by omega) (fun h26 => ?_) (fun h26 => ?_)
    · refine r_iconst (pc2 := 46) dX3_isGhost_45 rfl ?_
      refine r_retb dX3_isGhost_46 rfl (by first | exact Or.inl rfl | exact Or.inr rfl | exact bz_01) ?_
      exact ⟨by first | (exfalso; omega) | rw [bz_t (by unfold ghC; omega)] | rw [bz_f (by unfold ghC; omega)], rfl⟩
    · refine r_aload_n (pc2 := 30) dX3_isGhost_29 rfl rfl ?_
      refine r_iload_n (pc2 := 31) dX3_isGhost_30 rfl rfl ?_
      refine r_iload_n (pc2 := 32) dX3_isGhost_31 rfl rfl ?_
      refine r_iconst (pc2 := 33) dX3_isGhost_32 rfl ?_
      refine r_iadd (pc2 := 34) dX3_isGhost_33 rfl ?_
      refine r_callv_2 (pc2 := 37) dX3_isGhost_34 rfl rs_3_43 rfl (by decide) rfl (Nat.le_of_ble_eq_true rfl) (Nat.le_of_ble_eq_true rfl) (by assumption) (by assumption) (c_viewSeen _ a ca sa v p sh ln pr gd co c s hC hK hS b ka sb f g hG hF x (y + 1) (by omega) (by omega)) (fun r_ w_ h_ => ?_)
      rw [h_.1, h_.2]
      clear h_ w_ r_
      refine ⟨rfl, ?_⟩
      refine r_iload_n (pc2 := 38) dX3_isGhost_37 rfl rfl ?_
      refine r_icmp_eq (pc2 := 41) (tgt := 45) dX3_isGhost_38 rfl (by decide) (by omega) (by omega) (fun h38 => ?_) (fun h38 => ?_)
      · refine r_iconst (pc2 := 46) dX3_isGhost_45 rfl ?_
        refine r_retb dX3_isGhost_46 rfl (by first | exact Or.inl rfl | exact Or.inr rfl | exact bz_01) ?_
        exact ⟨by first | (exfalso; omega) | rw [bz_t (by unfold ghC; omega)] | rw [bz_f (by unfold ghC; omega)], rfl⟩
      · refine r_iconst (pc2 := 42) dX3_isGhost_41 rfl ?_
        refine r_goto (tgt := 46) dX3_isGhost_42 (by decide) ?_
        refine r_retb dX3_isGhost_46 rfl (by first | exact Or.inl rfl | exact Or.inr rfl | exact bz_01) ?_
        exact ⟨by first | (exfalso; omega) | rw [bz_t (by unfold ghC; omega)] | rw [bz_f (by unfold ghC; omega)], rfl⟩
  · refine r_aload_n (pc2 := 12) dX3_isGhost_11 rfl rfl ?_
    refine r_iload_n (pc2 := 13) dX3_isGhost_12 rfl rfl ?_
    refine r_iload_n (pc2 := 14) dX3_isGhost_13 rfl rfl ?_
    refine r_iconst (pc2 := 15) dX3_isGhost_14 rfl ?_
    refine r_isub (pc2 := 16) dX3_isGhost_15 rfl ?_
    refine r_callv_2 (pc2 := 19) dX3_isGhost_16 rfl rs_3_43 rfl (by decide) rfl (Nat.le_of_ble_eq_true rfl) (Nat.le_of_ble_eq_true rfl) (by assumption) (by assumption) (c_viewSeen _ a ca sa v p sh ln pr gd co c s hC hK hS b ka sb f g hG hF x (y - 1) (by omega) (by omega)) (fun r_ w_ h_ => ?_)
    rw [h_.1, h_.2]
    clear h_ w_ r_
    refine ⟨rfl, ?_⟩
    refine r_iload_n (pc2 := 20) dX3_isGhost_19 rfl rfl ?_
    refine r_icmp_ne (pc2 := 23) (tgt := 41) dX3_isGhost_20 rfl (by decide) (by omega) (by omega) (fun h20 => ?_) (fun h20 => ?_)
    · refine r_iconst (pc2 := 42) dX3_isGhost_41 rfl ?_
      refine r_goto (tgt := 46) dX3_isGhost_42 (by decide) ?_
      refine r_retb dX3_isGhost_46 rfl (by first | exact Or.inl rfl | exact Or.inr rfl | exact bz_01) ?_
      exact ⟨by first | (exfalso; omega) | rw [bz_t (by unfold ghC; omega)] | rw [bz_f (by unfold ghC; omega)], rfl⟩
    · refine r_iload_n (pc2 := 24) dX3_isGhost_23 rfl rfl ?_
      refine r_bipush (pc2 := 26) dX3_isGhost_24 rfl (by decide) ?_
      refine r_icmp_ge (pc2 := 29) (tgt := 45) dX3_isGhost_26 rfl (by decide) (by omega) (by omega) (fun h26 => ?_) (fun h26 => ?_)
      · refine r_iconst (pc2 := 46) dX3_isGhost_45 rfl ?_
        refine r_retb dX3_isGhost_46 rfl (by first | exact Or.inl rfl | exact Or.inr rfl | exact bz_01) ?_
        exact ⟨by first | (exfalso; omega) | rw [bz_t (by unfold ghC; omega)] | rw [bz_f (by unfold ghC; omega)], rfl⟩
      · refine r_aload_n (pc2 := 30) dX3_isGhost_29 rfl rfl ?_
        refine r_iload_n (pc2 := 31) dX3_isGhost_30 rfl rfl ?_
        refine r_iload_n (pc2 := 32) dX3_isGhost_31 rfl rfl ?_
        refine r_iconst (pc2 := 33) dX3_isGhost_32 rfl ?_
        refine r_iadd (pc2 := 34) dX3_isGhost_33 rfl ?_
        refine r_callv_2 (pc2 := 37) dX3_isGhost_34 rfl rs_3_43 rfl (by decide) rfl (Nat.le_of_ble_eq_true rfl) (Nat.le_of_ble_eq_true rfl) (by assumption) (by assumption) (c_viewSeen _ a ca sa v p sh ln pr gd co c s hC hK hS b ka sb f g hG hF x (y + 1) (by omega) (by omega)) (fun r_ w_ h_ => ?_)
        rw [h_.1, h_.2]
        clear h_ w_ r_
        refine ⟨rfl, ?_⟩
        refine r_iload_n (pc2 := 38) dX3_isGhost_37 rfl rfl ?_
        refine r_icmp_eq (pc2 := 41) (tgt := 45) dX3_isGhost_38 rfl (by decide) (by omega) (by omega) (fun h38 => ?_) (fun h38 => ?_)
        · refine r_iconst (pc2 := 46) dX3_isGhost_45 rfl ?_
          refine r_retb dX3_isGhost_46 rfl (by first | exact Or.inl rfl | exact Or.inr rfl | exact bz_01) ?_
          exact ⟨by first | (exfalso; omega) | rw [bz_t (by unfold ghC; omega)] | rw [bz_f (by unfold ghC; omega)], rfl⟩
        · refine r_iconst (pc2 := 42) dX3_isGhost_41 rfl ?_
          refine r_goto (tgt := 46) dX3_isGhost_42 (by decide) ?_
          refine r_retb dX3_isGhost_46 rfl (by first | exact Or.inl rfl | exact Or.inr rfl | exact bz_01) ?_
          exact ⟨by first | (exfalso; omega) | rw [bz_t (by unfold ghC; omega)] | rw [bz_f (by unfold ghC; omega)], rfl⟩

set_option maxHeartbeats 4000000 in
theorem c_ghosts (w : av_W) (a ca sa : Nat) (v p sh ln pr gd co : Int) (c s : Nat → Int) (hC : Cd w a ca sa v p sh ln pr gd co c s) (hK : KR v p sh ln) (hS : SR s) (b ka sb : Nat) (f g : Nat → Int) (hG : Sg w a b ka sb f g) (hF : ∀ j, j < 72 → -1 ≤ f j ∧ f j ≤ 5) (x : Int) (hx : 0 ≤ x ∧ x ≤ 5) : fn MX3_ghosts [.ref b, .int (iN x)] w (some (.int (iN (ghF s f x)))) w := by
  obtain ⟨⟨ha, hw⟩, ⟨hca, hcw⟩, ⟨hsa, hsw⟩, hne1, hne2, hne3⟩ := id hC
  obtain ⟨hv, hp, hsh, hln⟩ := id hK
  obtain ⟨⟨hb, hbw⟩, ⟨hka, hkw⟩, ⟨hsb, hzw⟩, hng1, hng2, hng3⟩ := id hG
  try unfold RG at *
  show rn MX3_ghosts 0 [some (.ref b), some (.int (iN x)), none, none] [] w (fun r' w' => r' = (some (.int (iN (ghF s f x)))) ∧ w' = w)
  have loop : ∀ (n : Nat) (k : Int) (m : Int), (0 ≤ k ∧ k ≤ 12 ∧ 13 ≤ k + n) → (m = sm k.toNat (fun r => bz (ghC s f x r))) → rn MX3_ghosts 4 [some (.ref b), some (.int (iN x)), some (.int (iN m)), some (.int (iN k))] [] w (fun r' w' => r' = (some (.int (iN (ghF s f x)))) ∧ w' = w) := by
    intro n
    induction n with
    | zero =>
      intro k m hk0 hk1
      exfalso
      omega
    | succ n ih =>
      intro k m hk0 hk1
      refine r_iload_n (pc2 := 5) dX3_ghosts_4 rfl rfl ?_
      refine r_bipush (pc2 := 7) dX3_ghosts_5 rfl (by decide) ?_
      refine r_icmp_ge (pc2 := 10) (tgt := 28) dX3_ghosts_7 rfl (by decide) (by omega) (by omega) (fun h7 => ?_) (fun h7 => ?_)
      · have h6 : k = 12 := by omega
        subst h6
        refine r_iload_n (pc2 := 29) dX3_ghosts_28 rfl rfl ?_
        refine r_ret dX3_ghosts_29 rfl ?_
        exact ⟨by rw [hk1]; rfl, rfl⟩
      · refine r_aload_n (pc2 := 11) dX3_ghosts_10 rfl rfl ?_
        refine r_iload_n (pc2 := 12) dX3_ghosts_11 rfl rfl ?_
        refine r_iload_n (pc2 := 13) dX3_ghosts_12 rfl rfl ?_
        refine r_callv_2 (pc2 := 16) dX3_ghosts_13 rfl rs_3_46 rfl (by decide) rfl (Nat.le_of_ble_eq_true rfl) (Nat.le_of_ble_eq_true rfl) (by assumption) (by assumption) (c_isGhost _ a ca sa v p sh ln pr gd co c s hC hK hS b ka sb f g hG hF x k hx (by omega)) (fun r_ w_ h_ => ?_)
        rw [h_.1, h_.2]
        clear h_ w_ r_
        refine ⟨rfl, ?_⟩
        refine r_ifb_eq (pc2 := 19) (tgt := 22) dX3_ghosts_16 rfl (by decide)  (fun h16 => ?_) (fun h16 => ?_)
        · have hq : bz (ghC s f x k) = 0 := bz_f h16
          rw [show m = m + 0 by omega]
          refine r_iinc_3 (pc2 := 25) dX3_ghosts_22 rfl rfl ?_
          refine r_goto (tgt := 4) dX3_ghosts_25 (by decide) ?_
          exact ih (k + 1) _ (by omega) (by rw [sm_step hk0.1, ← hk1, tn hk0.1, hq])
        · have hq : bz (ghC s f x k) = 1 := bz_t h16
          refine r_iinc_2 (pc2 := 22) dX3_ghosts_19 rfl rfl ?_
          refine r_iinc_3 (pc2 := 25) dX3_ghosts_22 rfl rfl ?_
          refine r_goto (tgt := 4) dX3_ghosts_25 (by decide) ?_
          exact ih (k + 1) _ (by omega) (by rw [sm_step hk0.1, ← hk1, tn hk0.1, hq])
  refine r_iconst (pc2 := 1) dX3_ghosts_0 rfl ?_
  refine r_ist_2 (pc2 := 2) dX3_ghosts_1 rfl rfl ?_
  refine r_iconst (pc2 := 3) dX3_ghosts_2 rfl ?_
  refine r_ist_3 (pc2 := 4) dX3_ghosts_3 rfl rfl ?_
  exact loop 13 0 0 (by omega) rfl

set_option maxHeartbeats 4000000 in
theorem c_ridgesShowing (w : av_W) (a ca sa : Nat) (v p sh ln pr gd co : Int) (c s : Nat → Int) (hC : Cd w a ca sa v p sh ln pr gd co c s) (hK : KR v p sh ln) (hS : SR s) (b ka sb : Nat) (f g : Nat → Int) (hG : Sg w a b ka sb f g) (hF : ∀ j, j < 72 → -1 ≤ f j ∧ f j ≤ 5) (x y : Int) (hx : 0 ≤ x ∧ x ≤ 5) (hy : RG y) : fn MX3_ridgesShowing [.ref b, .int (iN x), .int (iN y)] w (some (.int (iN (rsF s f x y)))) w := by
  obtain ⟨⟨ha, hw⟩, ⟨hca, hcw⟩, ⟨hsa, hsw⟩, hne1, hne2, hne3⟩ := id hC
  obtain ⟨hv, hp, hsh, hln⟩ := id hK
  obtain ⟨⟨hb, hbw⟩, ⟨hka, hkw⟩, ⟨hsb, hzw⟩, hng1, hng2, hng3⟩ := id hG
  try unfold RG at *
  show rn MX3_ridgesShowing 0 [some (.ref b), some (.int (iN x)), some (.int (iN y)), none, none] [] w (fun r' w' => r' = (some (.int (iN (rsF s f x y)))) ∧ w' = w)
  have loop : ∀ (n : Nat) (k : Int) (m : Int), (0 ≤ k ∧ k ≤ 12 ∧ 13 ≤ k + n) → (m = sm k.toNat (fun r => bz (vS s f x r = y))) → rn MX3_ridgesShowing 5 [some (.ref b), some (.int (iN x)), some (.int (iN y)), some (.int (iN m)), some (.int (iN k))] [] w (fun r' w' => r' = (some (.int (iN (rsF s f x y)))) ∧ w' = w) := by
    intro n
    induction n with
    | zero =>
      intro k m hk0 hk1
      exfalso
      omega
    | succ n ih =>
      intro k m hk0 hk1
      refine r_iload (pc2 := 7) dX3_ridgesShowing_5 rfl rfl ?_
      refine r_bipush (pc2 := 9) dX3_ridgesShowing_7 rfl (by decide) ?_
      refine r_icmp_ge (pc2 := 12) (tgt := 32) dX3_ridgesShowing_9 rfl (by decide) (by omega) (by omega) (fun h9 => ?_) (fun h9 => ?_)
      · have h6 : k = 12 := by omega
        subst h6
        refine r_iload_n (pc2 := 33) dX3_ridgesShowing_32 rfl rfl ?_
        refine r_ret dX3_ridgesShowing_33 rfl ?_
        exact ⟨by rw [hk1]; rfl, rfl⟩
      · refine r_aload_n (pc2 := 13) dX3_ridgesShowing_12 rfl rfl ?_
        refine r_iload_n (pc2 := 14) dX3_ridgesShowing_13 rfl rfl ?_
        refine r_iload (pc2 := 16) dX3_ridgesShowing_14 rfl rfl ?_
        refine r_callv_2 (pc2 := 19) dX3_ridgesShowing_16 rfl rs_3_43 rfl (by decide) rfl (Nat.le_of_ble_eq_true rfl) (Nat.le_of_ble_eq_true rfl) (by assumption) (by assumption) (c_viewSeen _ a ca sa v p sh ln pr gd co c s hC hK hS b ka sb f g hG hF x k (by omega) (by omega)) (fun r_ w_ h_ => ?_)
        rw [h_.1, h_.2]
        clear h_ w_ r_
        refine ⟨rfl, ?_⟩
        refine r_iload_n (pc2 := 20) dX3_ridgesShowing_19 rfl rfl ?_
        have g0 := vS_rg (f := f) hS x k
        refine r_icmp_ne (pc2 := 23) (tgt := 26) dX3_ridgesShowing_20 rfl (by decide) (by omega) (by omega) (fun h20 => ?_) (fun h20 => ?_)
        · have hq : bz (vS s f x k = y) = 0 := bz_f h20
          rw [show m = m + 0 by omega]
          refine r_iinc_4 (pc2 := 29) dX3_ridgesShowing_26 rfl rfl ?_
          refine r_goto (tgt := 5) dX3_ridgesShowing_29 (by decide) ?_
          exact ih (k + 1) _ (by omega) (by rw [sm_step hk0.1, ← hk1, tn hk0.1, hq])
        · have hq : bz (vS s f x k = y) = 1 := bz_t h20
          refine r_iinc_3 (pc2 := 26) dX3_ridgesShowing_23 rfl rfl ?_
          refine r_iinc_4 (pc2 := 29) dX3_ridgesShowing_26 rfl rfl ?_
          refine r_goto (tgt := 5) dX3_ridgesShowing_29 (by decide) ?_
          exact ih (k + 1) _ (by omega) (by rw [sm_step hk0.1, ← hk1, tn hk0.1, hq])
  refine r_iconst (pc2 := 1) dX3_ridgesShowing_0 rfl ?_
  refine r_ist_3 (pc2 := 2) dX3_ridgesShowing_1 rfl rfl ?_
  refine r_iconst (pc2 := 3) dX3_ridgesShowing_2 rfl ?_
  refine r_ist_4 (pc2 := 5) dX3_ridgesShowing_3 rfl rfl ?_
  exact loop 13 0 0 (by omega) rfl

set_option maxHeartbeats 4000000 in
theorem c_wholeView (w : av_W) (a ca sa : Nat) (v p sh ln pr gd co : Int) (c s : Nat → Int) (hC : Cd w a ca sa v p sh ln pr gd co c s) (hK : KR v p sh ln) (hS : SR s) (b ka sb : Nat) (f g : Nat → Int) (hG : Sg w a b ka sb f g) (hF : ∀ j, j < 72 → -1 ≤ f j ∧ f j ≤ 5) (x : Int) (hx : 0 ≤ x ∧ x ≤ 5) : fn MX3_wholeView [.ref b, .int (iN x)] w (some (.int (iN (whF s f x)))) w := by
  obtain ⟨⟨ha, hw⟩, ⟨hca, hcw⟩, ⟨hsa, hsw⟩, hne1, hne2, hne3⟩ := id hC
  obtain ⟨hv, hp, hsh, hln⟩ := id hK
  obtain ⟨⟨hb, hbw⟩, ⟨hka, hkw⟩, ⟨hsb, hzw⟩, hng1, hng2, hng3⟩ := id hG
  try unfold RG at *
  have g0 := vS_rg (f := f) hS x 0
  have g1 := rsF_rg s f x (vS s f x 0)
  show rn MX3_wholeView 0 [some (.ref b), some (.int (iN x)), none] [] w _
  refine r_aload_n (pc2 := 1) dX3_wholeView_0 rfl rfl ?_
  refine r_iload_n (pc2 := 2) dX3_wholeView_1 rfl rfl ?_
  refine r_iconst (pc2 := 3) dX3_wholeView_2 rfl ?_
  refine r_callv_2 (pc2 := 6) dX3_wholeView_3 rfl rs_3_43 rfl (by decide) rfl (Nat.le_of_ble_eq_true rfl) (Nat.le_of_ble_eq_true rfl) (by assumption) (by assumption) (c_viewSeen _ a ca sa v p sh ln pr gd co c s hC hK hS b ka sb f g hG hF x 0 (by omega) (by omega)) (fun r_ w_ h_ => ?_)
  rw [h_.1, h_.2]
  clear h_ w_ r_
  refine ⟨rfl, ?_⟩
  refine r_ist_2 (pc2 := 7) dX3_wholeView_6 rfl rfl ?_
  refine r_aload_n (pc2 := 8) dX3_wholeView_7 rfl rfl ?_
  refine r_iload_n (pc2 := 9) dX3_wholeView_8 rfl rfl ?_
  refine r_iload_n (pc2 := 10) dX3_wholeView_9 rfl rfl ?_
  refine r_callv_2 (pc2 := 13) dX3_wholeView_10 rfl rs_3_57 rfl (by decide) rfl (Nat.le_of_ble_eq_true rfl) (Nat.le_of_ble_eq_true rfl) (by assumption) (by assumption) (c_ridgesShowing _ a ca sa v p sh ln pr gd co c s hC hK hS b ka sb f g hG hF x (vS s f x 0) (by omega) (by unfold RG; omega)) (fun r_ w_ h_ => ?_)
  rw [h_.1, h_.2]
  clear h_ w_ r_
  refine ⟨rfl, ?_⟩
  refine r_bipush (pc2 := 15) dX3_wholeView_13 rfl (by decide) ?_
  refine r_icmp_ne (pc2 := 18) (tgt := 22) dX3_wholeView_15 rfl (by decide) (by omega) (by omega) (fun h15 => ?_) (fun h15 => ?_)
  · refine r_iconst (pc2 := 23) dX3_wholeView_22 rfl ?_
    refine r_ret dX3_wholeView_23 rfl ?_
    exact ⟨by unfold whF; first | rw [if_pos (by omega)] | rw [if_neg (by omega)], rfl⟩
  · refine r_iload_n (pc2 := 19) dX3_wholeView_18 rfl rfl ?_
    refine r_goto (tgt := 23) dX3_wholeView_19 (by decide) ?_
    refine r_ret dX3_wholeView_23 rfl ?_
    exact ⟨by unfold whF; first | rw [if_pos (by omega)] | rw [if_neg (by omega)], rfl⟩

set_option maxHeartbeats 4000000 in
theorem c_ghostsAll (w : av_W) (a ca sa : Nat) (v p sh ln pr gd co : Int) (c s : Nat → Int) (hC : Cd w a ca sa v p sh ln pr gd co c s) (hK : KR v p sh ln) (hS : SR s) (b ka sb : Nat) (f g : Nat → Int) (hG : Sg w a b ka sb f g) (hF : ∀ j, j < 72 → -1 ≤ f j ∧ f j ≤ 5) : fn MX3_ghostsAtAllAngles [.ref b] w (some (.int (iN (gaF p s f g)))) w := by
  obtain ⟨⟨ha, hw⟩, ⟨hca, hcw⟩, ⟨hsa, hsw⟩, hne1, hne2, hne3⟩ := id hC
  obtain ⟨hv, hp, hsh, hln⟩ := id hK
  obtain ⟨⟨hb, hbw⟩, ⟨hka, hkw⟩, ⟨hsb, hzw⟩, hng1, hng2, hng3⟩ := id hG
  try unfold RG at *
  show rn MX3_ghostsAtAllAngles 0 [some (.ref b), none, none] [] w (fun r' w' => r' = (some (.int (iN (gaF p s f g)))) ∧ w' = w)
  have loop : ∀ (n : Nat) (k : Int) (m : Int), (0 ≤ k ∧ k ≤ p ∧ p + 1 ≤ k + n) → (m = sm k.toNat (fun st => g st * ghF s f st)) → rn MX3_ghostsAtAllAngles 4 [some (.ref b), some (.int (iN m)), some (.int (iN k))] [] w (fun r' w' => r' = (some (.int (iN (gaF p s f g)))) ∧ w' = w) := by
    intro n
    induction n with
    | zero =>
      intro k m hk0 hk1
      exfalso
      omega
    | succ n ih =>
      intro k m hk0 hk1
      refine r_iload_n (pc2 := 5) dX3_ghostsAtAllAngles_4 rfl rfl ?_
      refine r_aload_n (pc2 := 6) dX3_ghostsAtAllAngles_5 rfl rfl ?_
      refine r_getf (pc2 := 9) dX3_ghostsAtAllAngles_6 rfl fl_3_12 (by assumption) (by assumption) (by rfl) ?_
      refine r_getf (pc2 := 12) dX3_ghostsAtAllAngles_9 rfl fl_3_50 (by assumption) (by assumption) (by rfl) ?_
      refine r_icmp_ge (pc2 := 15) (tgt := 42) dX3_ghostsAtAllAngles_12 rfl (by decide) (by omega) (by omega) (fun h12 => ?_) (fun h12 => ?_)
      · have h6 : k = p := by omega
        subst h6
        refine r_iload_n (pc2 := 43) dX3_ghostsAtAllAngles_42 rfl rfl ?_
        refine r_ret dX3_ghostsAtAllAngles_43 rfl ?_
        exact ⟨by rw [hk1]; rfl, rfl⟩
      · refine r_iload_n (pc2 := 16) dX3_ghostsAtAllAngles_15 rfl rfl ?_
        refine r_bipush (pc2 := 18) dX3_ghostsAtAllAngles_16 rfl (by decide) ?_
        refine r_icmp_ge (pc2 := 21) (tgt := 42) dX3_ghostsAtAllAngles_18 rfl (by decide) (by omega) (by omega) (fun h18 => ?_) (fun h18 => ?_)
        · exfalso
          omega
        · refine r_iload_n (pc2 := 22) dX3_ghostsAtAllAngles_21 rfl rfl ?_
          refine r_aload_n (pc2 := 23) dX3_ghostsAtAllAngles_22 rfl rfl ?_
          refine r_getf (pc2 := 26) dX3_ghostsAtAllAngles_23 rfl fl_3_22 (by assumption) (by assumption) (by rfl) ?_
          refine r_iload_n (pc2 := 27) dX3_ghostsAtAllAngles_26 rfl rfl ?_
          refine r_iald (pc2 := 28) dX3_ghostsAtAllAngles_27 rfl (by decide) (by assumption) (by assumption) (by omega) (by omega) (by omega) ?_
          refine r_aload_n (pc2 := 29) dX3_ghostsAtAllAngles_28 rfl rfl ?_
          refine r_iload_n (pc2 := 30) dX3_ghostsAtAllAngles_29 rfl rfl ?_
          refine r_callv_1 (pc2 := 33) dX3_ghostsAtAllAngles_30 rfl rs_3_54 rfl (by decide) rfl (Nat.le_of_ble_eq_true rfl) (Nat.le_of_ble_eq_true rfl) (by assumption) (by assumption) (c_ghosts _ a ca sa v p sh ln pr gd co c s hC hK hS b ka sb f g hG hF k (by omega)) (fun r_ w_ h_ => ?_)
          rw [h_.1, h_.2]
          clear h_ w_ r_
          refine ⟨rfl, ?_⟩
          refine r_imul (pc2 := 34) dX3_ghostsAtAllAngles_33 rfl ?_
          refine r_iadd (pc2 := 35) dX3_ghostsAtAllAngles_34 rfl ?_
          refine r_ist_1 (pc2 := 36) dX3_ghostsAtAllAngles_35 rfl rfl ?_
          refine r_iinc_2 (pc2 := 39) dX3_ghostsAtAllAngles_36 rfl rfl ?_
          refine r_goto (tgt := 4) dX3_ghostsAtAllAngles_39 (by decide) ?_
          exact ih (k + 1) _ (by omega) (by rw [sm_step hk0.1, ← hk1, tn hk0.1])
  refine r_iconst (pc2 := 1) dX3_ghostsAtAllAngles_0 rfl ?_
  refine r_ist_1 (pc2 := 2) dX3_ghostsAtAllAngles_1 rfl rfl ?_
  refine r_iconst (pc2 := 3) dX3_ghostsAtAllAngles_2 rfl ?_
  refine r_ist_2 (pc2 := 4) dX3_ghostsAtAllAngles_3 rfl rfl ?_
  exact loop (p.toNat + 1) 0 0 (by omega) rfl

set_option maxHeartbeats 4000000 in
theorem c_mostShown (w : av_W) (a ca sa : Nat) (v p sh ln pr gd co : Int) (c s : Nat → Int) (hC : Cd w a ca sa v p sh ln pr gd co c s) (hK : KR v p sh ln) (hS : SR s) (b ka sb : Nat) (f g : Nat → Int) (hG : Sg w a b ka sb f g) (hF : ∀ j, j < 72 → -1 ≤ f j ∧ f j ≤ 5) (x : Int) (hx : 0 ≤ x ∧ x ≤ 5) : fn MX3_mostShownView [.ref b, .int (iN x)] w (some (.int (iN (mvF s f x v.toNat).2))) w := by
  obtain ⟨⟨ha, hw⟩, ⟨hca, hcw⟩, ⟨hsa, hsw⟩, hne1, hne2, hne3⟩ := id hC
  obtain ⟨hv, hp, hsh, hln⟩ := id hK
  obtain ⟨⟨hb, hbw⟩, ⟨hka, hkw⟩, ⟨hsb, hzw⟩, hng1, hng2, hng3⟩ := id hG
  try unfold RG at *
  show rn MX3_mostShownView 0 [some (.ref b), some (.int (iN x)), none, none, none, none] [] w (fun r' w' => r' = (some (.int (iN (mvF s f x v.toNat).2))) ∧ w' = w)
  have loop : ∀ (n : Nat) (k : Int) (m : Int) (q : Int) (b5 : Option Value), (0 ≤ k ∧ k ≤ v ∧ v + 1 ≤ k + n) → ((m, q) = mvF s f x k.toNat) → rn MX3_mostShownView 7 [some (.ref b), some (.int (iN x)), some (.int (iN m)), some (.int (iN q)), some (.int (iN k)), b5] [] w (fun r' w' => r' = (some (.int (iN (mvF s f x v.toNat).2))) ∧ w' = w) := by
    intro n
    induction n with
    | zero =>
      intro k m q b5 hk0 hk1
      exfalso
      omega
    | succ n ih =>
      intro k m q b5 hk0 hk1
      have hmr := mvF_rg s f x k.toNat
      rw [← hk1] at hmr
      dsimp only at hmr
      refine r_iload (pc2 := 9) dX3_mostShownView_7 rfl rfl ?_
      refine r_aload_n (pc2 := 10) dX3_mostShownView_9 rfl rfl ?_
      refine r_getf (pc2 := 13) dX3_mostShownView_10 rfl fl_3_12 (by assumption) (by assumption) (by rfl) ?_
      refine r_getf (pc2 := 16) dX3_mostShownView_13 rfl fl_3_60 (by assumption) (by assumption) (by rfl) ?_
      refine r_icmp_ge (pc2 := 19) (tgt := 46) dX3_mostShownView_16 rfl (by decide) (by omega) (by omega) (fun h16 => ?_) (fun h16 => ?_)
      · have h6 : k = v := by omega
        subst h6
        refine r_iload_n (pc2 := 47) dX3_mostShownView_46 rfl rfl ?_
        refine r_ret dX3_mostShownView_47 rfl ?_
        exact ⟨by rw [← hk1], rfl⟩
      · refine r_aload_n (pc2 := 20) dX3_mostShownView_19 rfl rfl ?_
        refine r_iload_n (pc2 := 21) dX3_mostShownView_20 rfl rfl ?_
        refine r_iload (pc2 := 23) dX3_mostShownView_21 rfl rfl ?_
        refine r_callv_2 (pc2 := 26) dX3_mostShownView_23 rfl rs_3_57 rfl (by decide) rfl (Nat.le_of_ble_eq_true rfl) (Nat.le_of_ble_eq_true rfl) (by assumption) (by assumption) (c_ridgesShowing _ a ca sa v p sh ln pr gd co c s hC hK hS b ka sb f g hG hF x k (by omega) (by unfold RG; omega)) (fun r_ w_ h_ => ?_)
        rw [h_.1, h_.2]
        clear h_ w_ r_
        refine ⟨rfl, ?_⟩
        have g1 := rsF_rg s f x k
        refine r_ist_5 (pc2 := 28) dX3_mostShownView_26 rfl rfl ?_
        refine r_iload (pc2 := 30) dX3_mostShownView_28 rfl rfl ?_
        refine r_iload_n (pc2 := 31) dX3_mostShownView_30 rfl rfl ?_
        refine r_icmp_le (pc2 := 34) (tgt := 40) dX3_mostShownView_31 rfl (by decide) (by omega) (by omega) (fun h31 => ?_) (fun h31 => ?_)
        · have hnx : (m, q) = mvF s f x (k + 1).toNat := by
            rw [show (k + 1).toNat = k.toNat + 1 by omega]
            unfold mvF
            rw [← hk1, tn hk0.1, if_neg (by dsimp only; omega)]
          refine r_iinc_4 (pc2 := 43) dX3_mostShownView_40 rfl rfl ?_
          refine r_goto (tgt := 7) dX3_mostShownView_43 (by decide) ?_
          exact ih (k + 1) _ _ _ (by omega) hnx
        · have hnx : (rsF s f x k, k) = mvF s f x (k + 1).toNat := by
            rw [show (k + 1).toNat = k.toNat + 1 by omega]
            unfold mvF
            rw [← hk1, tn hk0.1, if_pos (by dsimp only; omega)]
          refine r_iload (pc2 := 36) dX3_mostShownView_34 rfl rfl ?_
          refine r_ist_2 (pc2 := 37) dX3_mostShownView_36 rfl rfl ?_
          refine r_iload (pc2 := 39) dX3_mostShownView_37 rfl rfl ?_
          refine r_ist_3 (pc2 := 40) dX3_mostShownView_39 rfl rfl ?_
          refine r_iinc_4 (pc2 := 43) dX3_mostShownView_40 rfl rfl ?_
          refine r_goto (tgt := 7) dX3_mostShownView_43 (by decide) ?_
          exact ih (k + 1) _ _ _ (by omega) hnx
  refine r_iconst (pc2 := 1) dX3_mostShownView_0 rfl ?_
  refine r_ist_2 (pc2 := 2) dX3_mostShownView_1 rfl rfl ?_
  refine r_iconst (pc2 := 3) dX3_mostShownView_2 rfl ?_
  refine r_ist_3 (pc2 := 4) dX3_mostShownView_3 rfl rfl ?_
  refine r_iconst (pc2 := 5) dX3_mostShownView_4 rfl ?_
  refine r_ist_4 (pc2 := 7) dX3_mostShownView_5 rfl rfl ?_
  exact loop (v.toNat + 1) 0 0 (-1) none (by omega) rfl

set_option maxHeartbeats 4000000 in
theorem c_mostRidges (w : av_W) (a ca sa : Nat) (v p sh ln pr gd co : Int) (c s : Nat → Int) (hC : Cd w a ca sa v p sh ln pr gd co c s) (hK : KR v p sh ln) (hS : SR s) (b ka sb : Nat) (f g : Nat → Int) (hG : Sg w a b ka sb f g) (hF : ∀ j, j < 72 → -1 ≤ f j ∧ f j ≤ 5) (x : Int) (hx : 0 ≤ x ∧ x ≤ 5) : fn MX3_mostShownRidges [.ref b, .int (iN x)] w (some (.int (iN (if (mvF s f x v.toNat).2 = -1 then 0 else rsF s f x (mvF s f x v.toNat).2)))) w := by
  obtain ⟨⟨ha, hw⟩, ⟨hca, hcw⟩, ⟨hsa, hsw⟩, hne1, hne2, hne3⟩ := id hC
  obtain ⟨hv, hp, hsh, hln⟩ := id hK
  obtain ⟨⟨hb, hbw⟩, ⟨hka, hkw⟩, ⟨hsb, hzw⟩, hng1, hng2, hng3⟩ := id hG
  try unfold RG at *
  have hmr := mvF_rg s f x v.toNat
  show rn MX3_mostShownRidges 0 [some (.ref b), some (.int (iN x)), none] [] w _
  refine r_aload_n (pc2 := 1) dX3_mostShownRidges_0 rfl rfl ?_
  refine r_iload_n (pc2 := 2) dX3_mostShownRidges_1 rfl rfl ?_
  refine r_callv_1 (pc2 := 5) dX3_mostShownRidges_2 rfl rs_3_63 rfl (by decide) rfl (Nat.le_of_ble_eq_true rfl) (Nat.le_of_ble_eq_true rfl) (by assumption) (by assumption) (c_mostShown _ a ca sa v p sh ln pr gd co c s hC hK hS b ka sb f g hG hF x hx) (fun r_ w_ h_ => ?_)
  rw [h_.1, h_.2]
  clear h_ w_ r_
  refine ⟨rfl, ?_⟩
  refine r_ist_2 (pc2 := 6) dX3_mostShownRidges_5 rfl rfl ?_
  refine r_iload_n (pc2 := 7) dX3_mostShownRidges_6 rfl rfl ?_
  refine r_iconst (pc2 := 8) dX3_mostShownRidges_7 rfl ?_
  refine r_icmp_ne (pc2 := 11) (tgt := 15) dX3_mostShownRidges_8 rfl (by decide) (by omega) (by omega) (fun h8 => ?_) (fun h8 => ?_)
  · refine r_aload_n (pc2 := 16) dX3_mostShownRidges_15 rfl rfl ?_
    refine r_iload_n (pc2 := 17) dX3_mostShownRidges_16 rfl rfl ?_
    refine r_iload_n (pc2 := 18) dX3_mostShownRidges_17 rfl rfl ?_
    refine r_callv_2 (pc2 := 21) dX3_mostShownRidges_18 rfl rs_3_57 rfl (by decide) rfl (Nat.le_of_ble_eq_true rfl) (Nat.le_of_ble_eq_true rfl) (by assumption) (by assumption) (c_ridgesShowing _ a ca sa v p sh ln pr gd co c s hC hK hS b ka sb f g hG hF x (mvF s f x v.toNat).2 (by omega) (by unfold RG; omega)) (fun r_ w_ h_ => ?_)
    rw [h_.1, h_.2]
    clear h_ w_ r_
    refine ⟨rfl, ?_⟩
    refine r_ret dX3_mostShownRidges_21 rfl ?_
    exact ⟨by first | rw [if_pos (by omega)] | rw [if_neg (by omega)], rfl⟩
  · refine r_iconst (pc2 := 12) dX3_mostShownRidges_11 rfl ?_
    refine r_goto (tgt := 21) dX3_mostShownRidges_12 (by decide) ?_
    refine r_ret dX3_mostShownRidges_21 rfl ?_
    exact ⟨by first | rw [if_pos (by omega)] | rw [if_neg (by omega)], rfl⟩

set_option maxHeartbeats 4000000 in
theorem c_anglesWhole (w : av_W) (a ca sa : Nat) (v p sh ln pr gd co : Int) (c s : Nat → Int) (hC : Cd w a ca sa v p sh ln pr gd co c s) (hK : KR v p sh ln) (hS : SR s) (b ka sb : Nat) (f g : Nat → Int) (hG : Sg w a b ka sb f g) (hF : ∀ j, j < 72 → -1 ≤ f j ∧ f j ≤ 5) (y : Int) (hy : RG y) : fn MX3_anglesShowingWhole [.ref b, .int (iN y)] w (some (.int (iN (asF p s f g y)))) w := by
  obtain ⟨⟨ha, hw⟩, ⟨hca, hcw⟩, ⟨hsa, hsw⟩, hne1, hne2, hne3⟩ := id hC
  obtain ⟨hv, hp, hsh, hln⟩ := id hK
  obtain ⟨⟨hb, hbw⟩, ⟨hka, hkw⟩, ⟨hsb, hzw⟩, hng1, hng2, hng3⟩ := id hG
  try unfold RG at *
  show rn MX3_anglesShowingWhole 0 [some (.ref b), some (.int (iN y)), none, none] [] w (fun r' w' => r' = (some (.int (iN (asF p s f g y)))) ∧ w' = w)
  have loop : ∀ (n : Nat) (k : Int) (m : Int), (0 ≤ k ∧ k ≤ p ∧ p + 1 ≤ k + n) → (m = sm k.toNat (fun st => if whF s f st = y then g st else 0)) → rn MX3_anglesShowingWhole 4 [some (.ref b), some (.int (iN y)), some (.int (iN m)), some (.int (iN k))] [] w (fun r' w' => r' = (some (.int (iN (asF p s f g y)))) ∧ w' = w) := by
    intro n
    induction n with
    | zero =>
      intro k m hk0 hk1
      exfalso
      omega
    | succ n ih =>
      intro k m hk0 hk1
      refine r_iload_n (pc2 := 5) dX3_anglesShowingWhole_4 rfl rfl ?_
      refine r_aload_n (pc2 := 6) dX3_anglesShowingWhole_5 rfl rfl ?_
      refine r_getf (pc2 := 9) dX3_anglesShowingWhole_6 rfl fl_3_12 (by assumption) (by assumption) (by rfl) ?_
      refine r_getf (pc2 := 12) dX3_anglesShowingWhole_9 rfl fl_3_50 (by assumption) (by assumption) (by rfl) ?_
      refine r_icmp_ge (pc2 := 15) (tgt := 45) dX3_anglesShowingWhole_12 rfl (by decide) (by omega) (by omega) (fun h12 => ?_) (fun h12 => ?_)
      · have h6 : k = p := by omega
        subst h6
        refine r_iload_n (pc2 := 46) dX3_anglesShowingWhole_45 rfl rfl ?_
        refine r_ret dX3_anglesShowingWhole_46 rfl ?_
        exact ⟨by rw [hk1]; rfl, rfl⟩
      · refine r_iload_n (pc2 := 16) dX3_anglesShowingWhole_15 rfl rfl ?_
        refine r_bipush (pc2 := 18) dX3_anglesShowingWhole_16 rfl (by decide) ?_
        refine r_icmp_ge (pc2 := 21) (tgt := 45) dX3_anglesShowingWhole_18 rfl (by decide) (by omega) (by omega) (fun h18 => ?_) (fun h18 => ?_)
        · exfalso
          omega
        · refine r_aload_n (pc2 := 22) dX3_anglesShowingWhole_21 rfl rfl ?_
          refine r_iload_n (pc2 := 23) dX3_anglesShowingWhole_22 rfl rfl ?_
          refine r_callv_1 (pc2 := 26) dX3_anglesShowingWhole_23 rfl rs_3_66 rfl (by decide) rfl (Nat.le_of_ble_eq_true rfl) (Nat.le_of_ble_eq_true rfl) (by assumption) (by assumption) (c_wholeView _ a ca sa v p sh ln pr gd co c s hC hK hS b ka sb f g hG hF k (by omega)) (fun r_ w_ h_ => ?_)
          rw [h_.1, h_.2]
          clear h_ w_ r_
          refine ⟨rfl, ?_⟩
          refine r_iload_n (pc2 := 27) dX3_anglesShowingWhole_26 rfl rfl ?_
          have g0 := whF_rg (f := f) hS k
          refine r_icmp_ne (pc2 := 30) (tgt := 39) dX3_anglesShowingWhole_27 rfl (by decide) (by omega) (by omega) (fun h27 => ?_) (fun h27 => ?_)
          · have hq : (if whF s f k = y then g k.toNat else 0) = 0 := if_neg h27
            rw [show m = m + 0 by omega]
            refine r_iinc_3 (pc2 := 42) dX3_anglesShowingWhole_39 rfl rfl ?_
            refine r_goto (tgt := 4) dX3_anglesShowingWhole_42 (by decide) ?_
            exact ih (k + 1) _ (by omega) (by rw [sm_step hk0.1, ← hk1, tn hk0.1, hq])
          · have hq : (if whF s f k = y then g k.toNat else 0) = g k.toNat := if_pos h27
            refine r_iload_n (pc2 := 31) dX3_anglesShowingWhole_30 rfl rfl ?_
            refine r_aload_n (pc2 := 32) dX3_anglesShowingWhole_31 rfl rfl ?_
            refine r_getf (pc2 := 35) dX3_anglesShowingWhole_32 rfl fl_3_22 (by assumption) (by assumption) (by rfl) ?_
            refine r_iload_n (pc2 := 36) dX3_anglesShowingWhole_35 rfl rfl ?_
            refine r_iald (pc2 := 37) dX3_anglesShowingWhole_36 rfl (by decide) (by assumption) (by assumption) (by omega) (by omega) (by omega) ?_
            refine r_iadd (pc2 := 38) dX3_anglesShowingWhole_37 rfl ?_
            refine r_ist_2 (pc2 := 39) dX3_anglesShowingWhole_38 rfl rfl ?_
            refine r_iinc_3 (pc2 := 42) dX3_anglesShowingWhole_39 rfl rfl ?_
            refine r_goto (tgt := 4) dX3_anglesShowingWhole_42 (by decide) ?_
            exact ih (k + 1) _ (by omega) (by rw [sm_step hk0.1, ← hk1, tn hk0.1, hq])
  refine r_iconst (pc2 := 1) dX3_anglesShowingWhole_0 rfl ?_
  refine r_ist_2 (pc2 := 2) dX3_anglesShowingWhole_1 rfl rfl ?_
  refine r_iconst (pc2 := 3) dX3_anglesShowingWhole_2 rfl ?_
  refine r_ist_3 (pc2 := 4) dX3_anglesShowingWhole_3 rfl rfl ?_
  exact loop (p.toNat + 1) 0 0 (by omega) rfl

set_option maxHeartbeats 4000000 in
theorem c_anyWhole (w : av_W) (a ca sa : Nat) (v p sh ln pr gd co : Int) (c s : Nat → Int) (hC : Cd w a ca sa v p sh ln pr gd co c s) (hK : KR v p sh ln) (hS : SR s) (b ka sb : Nat) (f g : Nat → Int) (hG : Sg w a b ka sb f g) (hF : ∀ j, j < 72 → -1 ≤ f j ∧ f j ≤ 5) : fn MX3_anglesShowingAnyWhole [.ref b] w (some (.int (iN (19 - asF p s f g (-1))))) w := by
  obtain ⟨⟨ha, hw⟩, ⟨hca, hcw⟩, ⟨hsa, hsw⟩, hne1, hne2, hne3⟩ := id hC
  obtain ⟨hv, hp, hsh, hln⟩ := id hK
  obtain ⟨⟨hb, hbw⟩, ⟨hka, hkw⟩, ⟨hsb, hzw⟩, hng1, hng2, hng3⟩ := id hG
  try unfold RG at *
  show rn MX3_anglesShowingAnyWhole 0 [some (.ref b)] [] w _
  refine r_bipush (pc2 := 2) dX3_anglesShowingAnyWhole_0 rfl (by decide) ?_
  refine r_aload_n (pc2 := 3) dX3_anglesShowingAnyWhole_2 rfl rfl ?_
  refine r_iconst (pc2 := 4) dX3_anglesShowingAnyWhole_3 rfl ?_
  refine r_callv_1 (pc2 := 7) dX3_anglesShowingAnyWhole_4 rfl rs_3_69 rfl (by decide) rfl (Nat.le_of_ble_eq_true rfl) (Nat.le_of_ble_eq_true rfl) (by assumption) (by assumption) (c_anglesWhole _ a ca sa v p sh ln pr gd co c s hC hK hS b ka sb f g hG hF (-1) (by unfold RG; omega)) (fun r_ w_ h_ => ?_)
  rw [h_.1, h_.2]
  clear h_ w_ r_
  refine ⟨rfl, ?_⟩
  refine r_isub (pc2 := 8) dX3_anglesShowingAnyWhole_7 rfl ?_
  refine r_ret dX3_anglesShowingAnyWhole_8 rfl ?_
  exact ⟨rfl, rfl⟩

set_option maxHeartbeats 4000000 in
theorem c_wholeViews (w : av_W) (a ca sa : Nat) (v p sh ln pr gd co : Int) (c s : Nat → Int) (hC : Cd w a ca sa v p sh ln pr gd co c s) (hK : KR v p sh ln) (hS : SR s) (b ka sb : Nat) (f g : Nat → Int) (hG : Sg w a b ka sb f g) (hF : ∀ j, j < 72 → -1 ≤ f j ∧ f j ≤ 5) (hg : ∀ j, j < 6 → 0 ≤ g j ∧ g j ≤ 19) : fn MX3_wholeViews [.ref b] w (some (.int (iN (wvF p v s f g)))) w := by
  obtain ⟨⟨ha, hw⟩, ⟨hca, hcw⟩, ⟨hsa, hsw⟩, hne1, hne2, hne3⟩ := id hC
  obtain ⟨hv, hp, hsh, hln⟩ := id hK
  obtain ⟨⟨hb, hbw⟩, ⟨hka, hkw⟩, ⟨hsb, hzw⟩, hng1, hng2, hng3⟩ := id hG
  try unfold RG at *
  show rn MX3_wholeViews 0 [some (.ref b), none, none] [] w (fun r' w' => r' = (some (.int (iN (wvF p v s f g)))) ∧ w' = w)
  have loop : ∀ (n : Nat) (k : Int) (m : Int), (0 ≤ k ∧ k ≤ v ∧ v + 1 ≤ k + n) → (m = sm k.toNat (fun x => bz (0 < asF p s f g x))) → rn MX3_wholeViews 4 [some (.ref b), some (.int (iN m)), some (.int (iN k))] [] w (fun r' w' => r' = (some (.int (iN (wvF p v s f g)))) ∧ w' = w) := by
    intro n
    induction n with
    | zero =>
      intro k m hk0 hk1
      exfalso
      omega
    | succ n ih =>
      intro k m hk0 hk1
      refine r_iload_n (pc2 := 5) dX3_wholeViews_4 rfl rfl ?_
      refine r_aload_n (pc2 := 6) dX3_wholeViews_5 rfl rfl ?_
      refine r_getf (pc2 := 9) dX3_wholeViews_6 rfl fl_3_12 (by assumption) (by assumption) (by rfl) ?_
      refine r_getf (pc2 := 12) dX3_wholeViews_9 rfl fl_3_60 (by assumption) (by assumption) (by rfl) ?_
      refine r_icmp_ge (pc2 := 15) (tgt := 32) dX3_wholeViews_12 rfl (by decide) (by omega) (by omega) (fun h12 => ?_) (fun h12 => ?_)
      · have h6 : k = v := by omega
        subst h6
        refine r_iload_n (pc2 := 33) dX3_wholeViews_32 rfl rfl ?_
        refine r_ret dX3_wholeViews_33 rfl ?_
        exact ⟨by rw [hk1]; rfl, rfl⟩
      · refine r_aload_n (pc2 := 16) dX3_wholeViews_15 rfl rfl ?_
        refine r_iload_n (pc2 := 17) dX3_wholeViews_16 rfl rfl ?_
        refine r_callv_1 (pc2 := 20) dX3_wholeViews_17 rfl rs_3_69 rfl (by decide) rfl (Nat.le_of_ble_eq_true rfl) (Nat.le_of_ble_eq_true rfl) (by assumption) (by assumption) (c_anglesWhole _ a ca sa v p sh ln pr gd co c s hC hK hS b ka sb f g hG hF k (by unfold RG; omega)) (fun r_ w_ h_ => ?_)
        rw [h_.1, h_.2]
        clear h_ w_ r_
        refine ⟨rfl, ?_⟩
        have g0 := asF_rg (s := s) (f := f) hp hg k
        refine r_if_le (pc2 := 23) (tgt := 26) dX3_wholeViews_20 rfl (by decide) (by omega) (fun h20 => ?_) (fun h20 => ?_)
        · have hq : bz (0 < asF p s f g k) = 0 := bz_f (by omega)
          rw [show m = m + 0 by omega]
          refine r_iinc_2 (pc2 := 29) dX3_wholeViews_26 rfl rfl ?_
          refine r_goto (tgt := 4) dX3_wholeViews_29 (by decide) ?_
          exact ih (k + 1) _ (by omega) (by rw [sm_step hk0.1, ← hk1, tn hk0.1, hq])
        · have hq : bz (0 < asF p s f g k) = 1 := bz_t (by omega)
          refine r_iinc_1 (pc2 := 26) dX3_wholeViews_23 rfl rfl ?_
          refine r_iinc_2 (pc2 := 29) dX3_wholeViews_26 rfl rfl ?_
          refine r_goto (tgt := 4) dX3_wholeViews_29 (by decide) ?_
          exact ih (k + 1) _ (by omega) (by rw [sm_step hk0.1, ← hk1, tn hk0.1, hq])
  refine r_iconst (pc2 := 1) dX3_wholeViews_0 rfl ?_
  refine r_ist_1 (pc2 := 2) dX3_wholeViews_1 rfl rfl ?_
  refine r_iconst (pc2 := 3) dX3_wholeViews_2 rfl ?_
  refine r_ist_2 (pc2 := 4) dX3_wholeViews_3 rfl rfl ?_
  exact loop (v.toNat + 1) 0 0 (by omega) rfl

set_option maxHeartbeats 4000000 in
theorem c_clearest (w : av_W) (a ca sa : Nat) (v p sh ln pr gd co : Int) (c s : Nat → Int) (hC : Cd w a ca sa v p sh ln pr gd co c s) (hK : KR v p sh ln) (hS : SR s) (b ka sb : Nat) (f g : Nat → Int) (hG : Sg w a b ka sb f g) (hF : ∀ j, j < 72 → -1 ≤ f j ∧ f j ≤ 5) (y : Int) (hy : RG y) : fn MX3_clearestAngle [.ref b, .int (iN y)] w (some (.int (iN (clF p s f y 19).1))) w := by
  obtain ⟨⟨ha, hw⟩, ⟨hca, hcw⟩, ⟨hsa, hsw⟩, hne1, hne2, hne3⟩ := id hC
  obtain ⟨hv, hp, hsh, hln⟩ := id hK
  obtain ⟨⟨hb, hbw⟩, ⟨hka, hkw⟩, ⟨hsb, hzw⟩, hng1, hng2, hng3⟩ := id hG
  try unfold RG at *
  show rn MX3_clearestAngle 0 [some (.ref b), some (.int (iN y)), none, none, none, none, none, none, none] [] w (fun r' w' => r' = (some (.int (iN (clF p s f y 19).1))) ∧ w' = w)
  have loop : ∀ (n : Nat) (k : Int) (q1 q2 q3 : Int) (b6 b7 b8 : Option Value), (-9 ≤ k ∧ k ≤ 10 ∧ 11 ≤ k + n) → ((q1, q2, q3) = clF p s f y (k + 9).toNat) → rn MX3_clearestAngle 12 [some (.ref b), some (.int (iN y)), some (.int (iN q1)), some (.int (iN q2)), some (.int (iN q3)), some (.int (iN k)), b6, b7, b8] [] w (fun r' w' => r' = (some (.int (iN (clF p s f y 19).1))) ∧ w' = w) := by
    intro n
    induction n with
    | zero =>
      intro k q1 q2 q3 b6 b7 b8 hk0 hk1
      exfalso
      omega
    | succ n ih =>
      intro k q1 q2 q3 b6 b7 b8 hk0 hk1
      have hcr := clF_rg p s f y (k + 9).toNat (by omega)
      rw [← hk1] at hcr
      dsimp only at hcr
      refine r_iload (pc2 := 14) dX3_clearestAngle_12 rfl rfl ?_
      refine r_bipush (pc2 := 16) dX3_clearestAngle_14 rfl (by decide) ?_
      refine r_icmp_gt (pc2 := 19) (tgt := 82) dX3_clearestAngle_16 rfl (by decide) (by omega) (by omega) (fun h16 => ?_) (fun h16 => ?_)
      · have h6 : k = 10 := by omega
        subst h6
        refine r_iload_n (pc2 := 83) dX3_clearestAngle_82 rfl rfl ?_
        refine r_ret dX3_clearestAngle_83 rfl ?_
        have e19 : ((10 : Int) + 9).toNat = 19 := by decide
        rw [e19] at hk1
        exact ⟨by rw [← hk1], rfl⟩
      · refine r_aload_n (pc2 := 20) dX3_clearestAngle_19 rfl rfl ?_
        refine r_getf (pc2 := 23) dX3_clearestAngle_20 rfl fl_3_12 (by assumption) (by assumption) (by rfl) ?_
        refine r_iload (pc2 := 25) dX3_clearestAngle_23 rfl rfl ?_
        refine r_callv_1 (pc2 := 28) dX3_clearestAngle_25 rfl rs_3_32 rfl (by decide) rfl (Nat.le_of_ble_eq_true rfl) (Nat.le_of_ble_eq_true rfl) (by assumption) (by assumption) (c_stepAt _ a ca sa v p sh ln pr gd co c s hC hK k (by omega)) (fun r_ w_ h_ => ?_)
        rw [h_.1, h_.2]
        clear h_ w_ r_
        refine ⟨rfl, ?_⟩
        have hr := stZ_rg (an := k) hp (by omega)
        have g1 := rsF_rg s f (stZ p k) y
        have g2 := ghF_rg s f (stZ p k)
        refine r_ist_6 (pc2 := 30) dX3_clearestAngle_28 rfl rfl ?_
        refine r_aload_n (pc2 := 31) dX3_clearestAngle_30 rfl rfl ?_
        refine r_iload (pc2 := 33) dX3_clearestAngle_31 rfl rfl ?_
        refine r_iload_n (pc2 := 34) dX3_clearestAngle_33 rfl rfl ?_
        refine r_callv_2 (pc2 := 37) dX3_clearestAngle_34 rfl rs_3_57 rfl (by decide) rfl (Nat.le_of_ble_eq_true rfl) (Nat.le_of_ble_eq_true rfl) (by assumption) (by assumption) (c_ridgesShowing _ a ca sa v p sh ln pr gd co c s hC hK hS b ka sb f g hG hF (stZ p k) y (by omega) (by unfold RG; omega)) (fun r_ w_ h_ => ?_)
        rw [h_.1, h_.2]
        clear h_ w_ r_
        refine ⟨rfl, ?_⟩
        refine r_ist_7 (pc2 := 39) dX3_clearestAngle_37 rfl rfl ?_
        refine r_aload_n (pc2 := 40) dX3_clearestAngle_39 rfl rfl ?_
        refine r_iload (pc2 := 42) dX3_clearestAngle_40 rfl rfl ?_
        refine r_callv_1 (pc2 := 45) dX3_clearestAngle_42 rfl rs_3_54 rfl (by decide) rfl (Nat.le_of_ble_eq_true rfl) (Nat.le_of_ble_eq_true rfl) (by assumption) (by assumption) (c_ghosts _ a ca sa v p sh ln pr gd co c s hC hK hS b ka sb f g hG hF (stZ p k) (by omega)) (fun r_ w_ h_ => ?_)
        rw [h_.1, h_.2]
        clear h_ w_ r_
        refine ⟨rfl, ?_⟩
        refine r_ist_8 (pc2 := 47) dX3_clearestAngle_45 rfl rfl ?_
        refine r_iload (pc2 := 49) dX3_clearestAngle_47 rfl rfl ?_
        refine r_iload_n (pc2 := 50) dX3_clearestAngle_49 rfl rfl ?_
        refine r_icmp_gt (pc2 := 53) (tgt := 66) dX3_clearestAngle_50 rfl (by decide) (by omega) (by omega) (fun h50 => ?_) (fun h50 => ?_)
        · have hnx : (k, rsF s f (stZ p k) y, ghF s f (stZ p k)) = clF p s f y (k + 1 + 9).toNat := by
            rw [show (k + 1 + 9).toNat = (k + 9).toNat + 1 by omega]
            unfold clF
            rw [← hk1, show (((k + 9).toNat : Nat) : Int) - 9 = k by omega, if_pos (by dsimp only; omega)]
          refine r_iload (pc2 := 68) dX3_clearestAngle_66 rfl rfl ?_
          refine r_ist_2 (pc2 := 69) dX3_clearestAngle_68 rfl rfl ?_
          refine r_iload (pc2 := 71) dX3_clearestAngle_69 rfl rfl ?_
          refine r_ist_3 (pc2 := 72) dX3_clearestAngle_71 rfl rfl ?_
          refine r_iload (pc2 := 74) dX3_clearestAngle_72 rfl rfl ?_
          refine r_ist_4 (pc2 := 76) dX3_clearestAngle_74 rfl rfl ?_
          refine r_iinc_5 (pc2 := 79) dX3_clearestAngle_76 rfl rfl ?_
          refine r_goto (tgt := 12) dX3_clearestAngle_79 (by decide) ?_
          exact ih (k + 1) _ _ _ _ _ _ (by omega) hnx
        · refine r_iload (pc2 := 55) dX3_clearestAngle_53 rfl rfl ?_
          refine r_iload_n (pc2 := 56) dX3_clearestAngle_55 rfl rfl ?_
          refine r_icmp_ne (pc2 := 59) (tgt := 76) dX3_clearestAngle_56 rfl (by decide) (by omega) (by omega) (fun h56 => ?_) (fun h56 => ?_)
          · have hnx : (q1, q2, q3) = clF p s f y (k + 1 + 9).toNat := by
              rw [show (k + 1 + 9).toNat = (k + 9).toNat + 1 by omega]
              unfold clF
              rw [← hk1, show (((k + 9).toNat : Nat) : Int) - 9 = k by omega, if_neg (by dsimp only; omega)]
            refine r_iinc_5 (pc2 := 79) dX3_clearestAngle_76 rfl rfl ?_
            refine r_goto (tgt := 12) dX3_clearestAngle_79 (by decide) ?_
            exact ih (k + 1) _ _ _ _ _ _ (by omega) hnx
          · refine r_iload (pc2 := 61) dX3_clearestAngle_59 rfl rfl ?_
            refine r_iload (pc2 := 63) dX3_clearestAngle_61 rfl rfl ?_
            refine r_icmp_ge (pc2 := 66) (tgt := 76) dX3_clearestAngle_63 rfl (by decide) (by omega) (by omega) (fun h63 => ?_) (fun h63 => ?_)
            · have hnx : (q1, q2, q3) = clF p s f y (k + 1 + 9).toNat := by
                rw [show (k + 1 + 9).toNat = (k + 9).toNat + 1 by omega]
                unfold clF
                rw [← hk1, show (((k + 9).toNat : Nat) : Int) - 9 = k by omega, if_neg (by dsimp only; omega)]
              refine r_iinc_5 (pc2 := 79) dX3_clearestAngle_76 rfl rfl ?_
              refine r_goto (tgt := 12) dX3_clearestAngle_79 (by decide) ?_
              exact ih (k + 1) _ _ _ _ _ _ (by omega) hnx
            · have hnx : (k, rsF s f (stZ p k) y, ghF s f (stZ p k)) = clF p s f y (k + 1 + 9).toNat := by
                rw [show (k + 1 + 9).toNat = (k + 9).toNat + 1 by omega]
                unfold clF
                rw [← hk1, show (((k + 9).toNat : Nat) : Int) - 9 = k by omega, if_pos (by dsimp only; omega)]
              refine r_iload (pc2 := 68) dX3_clearestAngle_66 rfl rfl ?_
              refine r_ist_2 (pc2 := 69) dX3_clearestAngle_68 rfl rfl ?_
              refine r_iload (pc2 := 71) dX3_clearestAngle_69 rfl rfl ?_
              refine r_ist_3 (pc2 := 72) dX3_clearestAngle_71 rfl rfl ?_
              refine r_iload (pc2 := 74) dX3_clearestAngle_72 rfl rfl ?_
              refine r_ist_4 (pc2 := 76) dX3_clearestAngle_74 rfl rfl ?_
              refine r_iinc_5 (pc2 := 79) dX3_clearestAngle_76 rfl rfl ?_
              refine r_goto (tgt := 12) dX3_clearestAngle_79 (by decide) ?_
              exact ih (k + 1) _ _ _ _ _ _ (by omega) hnx
  refine r_bipush (pc2 := 2) dX3_clearestAngle_0 rfl (by decide) ?_
  refine r_ist_2 (pc2 := 3) dX3_clearestAngle_2 rfl rfl ?_
  refine r_iconst (pc2 := 4) dX3_clearestAngle_3 rfl ?_
  refine r_ist_3 (pc2 := 5) dX3_clearestAngle_4 rfl rfl ?_
  refine r_iconst (pc2 := 6) dX3_clearestAngle_5 rfl ?_
  refine r_ist_4 (pc2 := 8) dX3_clearestAngle_6 rfl rfl ?_
  refine r_bipush (pc2 := 10) dX3_clearestAngle_8 rfl (by decide) ?_
  refine r_ist_5 (pc2 := 12) dX3_clearestAngle_10 rfl rfl ?_
  exact loop 20 (-9) (-9) (-1) 0 none none none (by omega) rfl
