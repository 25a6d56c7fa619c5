/-! the reference reads its text -/
def TR (t : Nat → Int) : Prop := ∀ j, j < 80 → 0 ≤ t j ∧ t j ≤ 65535
abbrev inO (t : Nat → Int) (tl a b i : Int) : Prop := i < tl ∧ a ≤ t i.toNat ∧ t i.toNat ≤ b
def cOf (t : Nat → Int) : Nat → Int := fun j => if t j ≤ 255 then t j else 0

set_option maxHeartbeats 4000000 in
theorem m_isHere (w : av_W) (h42 : 42 ≤ w.1) (hl tk tl sp rv rs oa : Int) (hO : w.2.2 33 = mdO hl tk tl sp rv rs oa) (t : Nat → Int) (hT : w.2.2 41 = arO 80 t) (hR : TR t) (htl : 0 ≤ tl ∧ tl ≤ 80) (hsp : 0 ≤ sp ∧ sp ≤ 80) (x y : Int) (hx : RG x) (hy : RG y) : fn MX5_isHere [.ref 33, .int (iN x), .int (iN y)] w (some (.int (iN (bz (inO t tl x y sp))))) w := by
  have k33 : 33 < w.1 := by omega
  have k41 : 41 < w.1 := by omega
  try unfold RG at *
  show rn MX5_isHere 0 [some (.ref 33), some (.int (iN x)), some (.int (iN y))] [] w _
  refine r_aload_n (pc2 := 1) dX5_isHere_0 rfl rfl ?_
  refine r_getf (pc2 := 4) dX5_isHere_1 rfl fl_5_134 (by assumption) (by assumption) (by rfl) ?_
  refine r_aload_n (pc2 := 5) dX5_isHere_4 rfl rfl ?_
  refine r_getf (pc2 := 8) dX5_isHere_5 rfl fl_5_131 (by assumption) (by assumption) (by rfl) ?_
  refine r_icmp_ge (pc2 := 11) (tgt := 35) dX5_isHere_8 rfl (by decide) (by omega) (by omega) (fun h8 => ?_) (fun h8 => ?_)
  · refine r_iconst (pc2 := 36) dX5_isHere_35 rfl ?_
    refine r_retb dX5_isHere_36 rfl (by first | exact Or.inl rfl | exact Or.inr rfl | exact bz_01) ?_
    exact ⟨by first | rw [bz_t (by unfold inO; omega)] | rw [bz_f (by unfold inO; omega)], rfl⟩
  · refine r_aload_n (pc2 := 12) dX5_isHere_11 rfl rfl ?_
    refine r_getf (pc2 := 15) dX5_isHere_12 rfl fl_5_31 (by assumption) (by assumption) (by rfl) ?_
    refine r_aload_n (pc2 := 16) dX5_isHere_15 rfl rfl ?_
    refine r_getf (pc2 := 19) dX5_isHere_16 rfl fl_5_134 (by assumption) (by assumption) (by rfl) ?_
    refine r_iald (pc2 := 20) dX5_isHere_19 rfl (by decide) (by assumption) (by assumption) (by omega) (by omega) (by omega) ?_
    have htj := hR sp.toNat (by omega)
    refine r_i2l (pc2 := 21) dX5_isHere_20 rfl (by omega) ?_
    refine r_iload_n (pc2 := 22) dX5_isHere_21 rfl rfl ?_
    refine r_i2l (pc2 := 23) dX5_isHere_22 rfl (by omega) ?_
    refine r_iload_n (pc2 := 24) dX5_isHere_23 rfl rfl ?_
    refine r_i2l (pc2 := 25) dX5_isHere_24 rfl (by omega) ?_
    refine r_calls_3 (pc2 := 28) dX5_isHere_25 rfl rs_5_41 rfl (by decide) rfl (Nat.le_of_ble_eq_true rfl) (Nat.le_of_ble_eq_true rfl) (m_in _ (t sp.toNat) x y (by unfold RLg; omega) (by unfold RLg; omega) (by unfold RLg; omega)) (fun r_ w_ h_ => ?_)
    rw [h_.1, h_.2]
    clear h_ w_ r_
    refine ⟨rfl, ?_⟩
    refine r_ifb_eq (pc2 := 31) (tgt := 35) dX5_isHere_28 rfl (by decide)  (fun h28 => ?_) (fun h28 => ?_)
    · refine r_iconst (pc2 := 36) dX5_isHere_35 rfl ?_
      refine r_retb dX5_isHere_36 rfl (by first | exact Or.inl rfl | exact Or.inr rfl | exact bz_01) ?_
      exact ⟨by first | rw [bz_t (by unfold inO; omega)] | rw [bz_f (by unfold inO; omega)], rfl⟩
    · refine r_iconst (pc2 := 32) dX5_isHere_31 rfl ?_
      refine r_goto (tgt := 36) dX5_isHere_32 (by decide) ?_
      refine r_retb dX5_isHere_36 rfl (by first | exact Or.inl rfl | exact Or.inr rfl | exact bz_01) ?_
      exact ⟨by first | rw [bz_t (by unfold inO; omega)] | rw [bz_f (by unfold inO; omega)], rfl⟩

set_option maxHeartbeats 4000000 in
theorem m_takes (w : av_W) (h42 : 42 ≤ w.1) (hl tk tl sp rv rs oa : Int) (hO : w.2.2 33 = mdO hl tk tl sp rv rs oa) (t : Nat → Int) (hT : w.2.2 41 = arO 80 t) (hR : TR t) (htl : 0 ≤ tl ∧ tl ≤ 80) (hsp : 0 ≤ sp ∧ sp ≤ 80) (x : Int) (hx : RG x) : fn MX5_takes [.ref 33, .int (iN x)] w (some (.int (iN (bz (inO t tl x x sp))))) (wst w 33 (mdO hl tk tl (sp + bz (inO t tl x x sp)) rv rs oa)) := by
  have k33 : 33 < w.1 := by omega
  have k41 : 41 < w.1 := by omega
  try unfold RG at *
  show rn MX5_takes 0 [some (.ref 33), some (.int (iN x)), none] [] w _
  refine r_aload_n (pc2 := 1) dX5_takes_0 rfl rfl ?_
  refine r_iload_n (pc2 := 2) dX5_takes_1 rfl rfl ?_
  refine r_iload_n (pc2 := 3) dX5_takes_2 rfl rfl ?_
  refine r_callv_2 (pc2 := 6) dX5_takes_3 rfl rs_5_137 rfl (by decide) rfl (Nat.le_of_ble_eq_true rfl) (Nat.le_of_ble_eq_true rfl) (by assumption) (by assumption) (m_isHere _ h42 hl tk tl sp rv rs oa hO t hT hR htl hsp x x (by unfold RG; omega) (by unfold RG; omega)) (fun r_ w_ h_ => ?_)
  rw [h_.1, h_.2]
  clear h_ w_ r_
  refine ⟨rfl, ?_⟩
  refine r_ist_2 (pc2 := 7) dX5_takes_6 rfl rfl ?_
  refine r_aload_n (pc2 := 8) dX5_takes_7 rfl rfl ?_
  refine r_dup (pc2 := 9) dX5_takes_8 rfl rfl ?_
  refine r_getf (pc2 := 12) dX5_takes_9 rfl fl_5_134 (by assumption) (by assumption) (by rfl) ?_
  refine r_iload_n (pc2 := 13) dX5_takes_12 rfl rfl ?_
  refine r_ifb_eq (pc2 := 16) (tgt := 20) dX5_takes_13 rfl (by decide) (fun h13 => ?_) (fun h13 => ?_)
  · refine r_iconst (pc2 := 21) dX5_takes_20 rfl ?_
    refine r_iadd (pc2 := 22) dX5_takes_21 rfl ?_
    refine r_putf (pc2 := 25) dX5_takes_22 rfl fl_5_134 (by assumption) (by assumption) (by exact Nat.le_of_ble_eq_true rfl) (by rfl) (by rfl) (by rfl) ?_
    refine r_iload_n (pc2 := 26) dX5_takes_25 rfl rfl ?_
    refine r_retb dX5_takes_26 rfl (by first | exact Or.inl rfl | exact Or.inr rfl | exact bz_01) ?_
    exact ⟨rfl, by first | (rw [bz_t h13]; rfl) | (rw [bz_f h13]; rfl)⟩
  · refine r_iconst (pc2 := 17) dX5_takes_16 rfl ?_
    refine r_goto (tgt := 21) dX5_takes_17 (by decide) ?_
    refine r_iadd (pc2 := 22) dX5_takes_21 rfl ?_
    refine r_putf (pc2 := 25) dX5_takes_22 rfl fl_5_134 (by assumption) (by assumption) (by exact Nat.le_of_ble_eq_true rfl) (by rfl) (by rfl) (by rfl) ?_
    refine r_iload_n (pc2 := 26) dX5_takes_25 rfl rfl ?_
    refine r_retb dX5_takes_26 rfl (by first | exact Or.inl rfl | exact Or.inr rfl | exact bz_01) ?_
    exact ⟨rfl, by first | (rw [bz_t h13]; rfl) | (rw [bz_f h13]; rfl)⟩

set_option maxHeartbeats 4000000 in
theorem m_readsDigits (w : av_W) (h42 : 42 ≤ w.1) (hl tk tl sp rv rs oa : Int) (hO : w.2.2 33 = mdO hl tk tl sp rv rs oa) (t : Nat → Int) (hT : w.2.2 41 = arO 80 t) (hR : TR t) (htl : 0 ≤ tl ∧ tl ≤ 80) (hsp : 0 ≤ sp ∧ sp ≤ 80) (x y : Int) (hx : 0 ≤ x ∧ x ≤ 12) (hy : 1 ≤ y ∧ y ≤ 10) : cl MX5_readsDigits [.ref 33, .int (iN x), .int (iN y)] w (fun r' w' => ∃ n : Int, (0 ≤ n ∧ n ≤ x) ∧ (∀ i : Int, 0 ≤ i → i < n → inO t tl 48 (48 + y - 1) (sp + i)) ∧ (n = x ∨ ¬ inO t tl 48 (48 + y - 1) (sp + n)) ∧ r' = some (.int (iN n)) ∧ w' = (wst w 33 (mdO hl tk tl (sp + n) rv rs oa))) := by
  have k33 : 33 < w.1 := by omega
  have k41 : 41 < w.1 := by omega
  try unfold RG at *
  show rn MX5_readsDigits 0 [some (.ref 33), some (.int (iN x)), some (.int (iN y)), none] [] w (fun r' w' => ∃ n : Int, (0 ≤ n ∧ n ≤ x) ∧ (∀ i : Int, 0 ≤ i → i < n → inO t tl 48 (48 + y - 1) (sp + i)) ∧ (n = x ∨ ¬ inO t tl 48 (48 + y - 1) (sp + n)) ∧ r' = some (.int (iN n)) ∧ w' = (wst w 33 (mdO hl tk tl (sp + n) rv rs oa)))
  have loop : ∀ (n : Nat) (k : Int), (0 ≤ k ∧ k ≤ x ∧ x + 1 ≤ k + n) → (∀ i : Int, 0 ≤ i → i < k → inO t tl 48 (48 + y - 1) (sp + i)) → rn MX5_readsDigits 2 [some (.ref 33), some (.int (iN x)), some (.int (iN y)), some (.int (iN k))] [] (wst w 33 (mdO hl tk tl (sp + k) rv rs oa)) (fun r' w' => ∃ n : Int, (0 ≤ n ∧ n ≤ x) ∧ (∀ i : Int, 0 ≤ i → i < n → inO t tl 48 (48 + y - 1) (sp + i)) ∧ (n = x ∨ ¬ inO t tl 48 (48 + y - 1) (sp + n)) ∧ r' = some (.int (iN n)) ∧ w' = (wst w 33 (mdO hl tk tl (sp + n) rv rs oa))) := by
    intro n
    induction n with
    | zero =>
      intro k hk0 hk1
      exfalso
      omega
    | succ n ih =>
      intro k hk0 hk1
      have q42 : 42 ≤ (wst w 33 (mdO hl tk tl (sp + k) rv rs oa)).1 := h42
      have q33 : 33 < (wst w 33 (mdO hl tk tl (sp + k) rv rs oa)).1 := k33
      have qO : (wst w 33 (mdO hl tk tl (sp + k) rv rs oa)).2.2 33 = mdO hl tk tl (sp + k) rv rs oa := wst_self
      have qT : (wst w 33 (mdO hl tk tl (sp + k) rv rs oa)).2.2 41 = arO 80 t := by rw [wst_ne (by decide)]; exact hT
      have hspk : sp + k ≤ 80 := by
        by_cases hk0z : k = 0
        · omega
        · have := (hk1 (k - 1) (by omega) (by omega)).1
          omega
      refine r_iload_n (pc2 := 3) dX5_readsDigits_2 rfl rfl ?_
      refine r_iload_n (pc2 := 4) dX5_readsDigits_3 rfl rfl ?_
      refine r_icmp_ge (pc2 := 7) (tgt := 38) dX5_readsDigits_4 rfl (by decide) (by omega) (by omega) (fun h4 => ?_) (fun h4 => ?_)
      · have h6 : k = x := by omega
        refine r_iload_n (pc2 := 39) dX5_readsDigits_38 rfl rfl ?_
        refine r_ret dX5_readsDigits_39 rfl ?_
        exact ⟨k, by omega, hk1, Or.inl h6, rfl, rfl⟩
      · refine r_aload_n (pc2 := 8) dX5_readsDigits_7 rfl rfl ?_
        refine r_bipush (pc2 := 10) dX5_readsDigits_8 rfl (by decide) ?_
        refine r_bipush (pc2 := 12) dX5_readsDigits_10 rfl (by decide) ?_
        refine r_iload_n (pc2 := 13) dX5_readsDigits_12 rfl rfl ?_
        refine r_iadd (pc2 := 14) dX5_readsDigits_13 rfl ?_
        refine r_iconst (pc2 := 15) dX5_readsDigits_14 rfl ?_
        refine r_isub (pc2 := 16) dX5_readsDigits_15 rfl ?_
        refine r_callv_2 (pc2 := 19) dX5_readsDigits_16 rfl rs_5_137 rfl (by decide) rfl (Nat.le_of_ble_eq_true rfl) (Nat.le_of_ble_eq_true rfl) (by assumption) (by assumption) (m_isHere _ q42 hl tk tl (sp + k) rv rs oa qO t qT hR htl (by omega) 48 (48 + y - 1) (by unfold RG; omega) (by unfold RG; omega)) (fun r_ w_ h_ => ?_)
        rw [h_.1, h_.2]
        clear h_ w_ r_
        refine ⟨rfl, ?_⟩
        refine r_ifb_eq (pc2 := 22) (tgt := 38) dX5_readsDigits_19 rfl (by decide)  (fun h19 => ?_) (fun h19 => ?_)
        · refine r_iload_n (pc2 := 39) dX5_readsDigits_38 rfl rfl ?_
          refine r_ret dX5_readsDigits_39 rfl ?_
          exact ⟨k, by omega, hk1, Or.inr h19, rfl, rfl⟩
        · refine r_aload_n (pc2 := 23) dX5_readsDigits_22 rfl rfl ?_
          refine r_dup (pc2 := 24) dX5_readsDigits_23 rfl rfl ?_
          refine r_getf (pc2 := 27) dX5_readsDigits_24 rfl fl_5_134 (by assumption) (by assumption) (by rfl) ?_
          refine r_iconst (pc2 := 28) dX5_readsDigits_27 rfl ?_
          refine r_iadd (pc2 := 29) dX5_readsDigits_28 rfl ?_
          refine r_putf (pc2 := 32) dX5_readsDigits_29 rfl fl_5_134 (by assumption) (by assumption) (by exact Nat.le_of_ble_eq_true rfl) (by rfl) (by rfl) (by rfl) ?_
          refine r_iinc_3 (pc2 := 35) dX5_readsDigits_32 rfl rfl ?_
          refine r_goto (tgt := 2) dX5_readsDigits_35 (by decide) ?_
          rw [wst_wst]
          have hall : ∀ i : Int, 0 ≤ i → i < k + 1 → inO t tl 48 (48 + y - 1) (sp + i) := fun i h0 h1 => by
            by_cases hik : i = k
            · rw [hik]; exact h19
            · exact hk1 i h0 (by omega)
          have := ih (k + 1) (by omega) hall
          rw [show sp + (k + 1) = sp + k + 1 by omega] at this
          exact this
  refine r_iconst (pc2 := 1) dX5_readsDigits_0 rfl ?_
  refine r_ist_3 (pc2 := 2) dX5_readsDigits_1 rfl rfl ?_
  have := loop (x.toNat + 1) 0 (by omega) (fun i h0 h1 => by omega)
  rw [show sp + 0 = sp by omega, wst_id hO] at this
  exact this
