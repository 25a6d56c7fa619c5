/-! beyond their lengths arrays hold zeros -/
section AVS5
variable {len pc pc2 : Nat} {ls ls2 : av_L} {st st2 : List Value} {w w2 : av_W}
def ZB (w : av_W) : Prop := ∀ (k t n : Nat) (f : Nat → Int32), k ≠ av_scr → w.2.2 k = .inl (t, n, .inl f) → ∀ j : Nat, n ≤ j → f j = 0
theorem ZB_up {a : Nat} {x : av_E} {n1 n2 : Nat} (hz : ZB w) (h : ∀ (t n : Nat) (f : Nat → Int32), x = .inl (t, n, .inl f) → ∀ j : Nat, n ≤ j → f j = 0) : ZB (n1, n2, av_up w.2.2 a x) := by
  intro k t n f hk he
  have he : (if k = a then x else w.2.2 k) = .inl (t, n, .inl f) := he
  by_cases q : k = a
  · rw [if_pos q] at he
    exact h t n f he
  · rw [if_neg q] at he
    exact hz k t n f hk he
theorem av_putf_zb {own i : Nat} {b : Bool} (hz : ZB w) (hs : av_putf own b i len pc ls st w = some (pc2, ls2, st2, w2)) : ZB w2 := by
  unfold av_putf at hs
  (repeat' split at hs) <;> first | (cases hs; done) | (cases hs; exact ZB_up hz (fun t n f e => by cases e))
theorem av_xast_zb {g : Int32 → Int32} {t : Nat} (hw : w.1 ≤ 1000) (hz : ZB w) (hs : av_xast g t len pc ls st w = some (pc2, ls2, st2, w2)) : ZB w2 := by
  unfold av_xast at hs
  split at hs
  case h_2 => cases hs
  case h_1 x i a rest =>
  split at hs
  case h_2 => cases hs
  case h_1 t2 n f h9 =>
  split at hs
  case isFalse => cases hs
  case isTrue h0 =>
  have ha : a < w.1 := h0.1
  have ha2 : a ≠ av_scr := Nat.ne_of_lt (Nat.lt_of_lt_of_le ha (Nat.le_trans hw (by decide)))
  cases hs
  refine ZB_up hz (fun t3 n3 f3 e => ?_)
  cases e
  intro j hj
  have h1 := h0.2.2.2
  unfold av_inr at h1
  simp only [Bool.and_eq_true, decide_eq_true_eq] at h1
  show (if j = i.toNatClampNeg then g x else f j) = 0
  rw [if_neg (by omega)]
  exact hz a t2 n f ha2 h9 j hj
theorem av_rast_zb (hz : ZB w) (hs : av_rast len pc ls st w = some (pc2, ls2, st2, w2)) : ZB w2 := by
  unfold av_rast at hs
  (repeat' split at hs) <;> first | (cases hs; done) | (cases hs; exact ZB_up hz (fun t n f e => by cases e))
theorem av_newa_zb {t : Nat} (hz : ZB w) (hs : av_newa t len pc ls st w = some (pc2, ls2, st2, w2)) : ZB w2 := by
  unfold av_newa at hs
  (repeat' split at hs) <;> first | (cases hs; done) | (cases hs; exact ZB_up hz (fun t n f e => by cases e; intro j _; rfl))
theorem av_newr_zb {own i : Nat} (hz : ZB w) (hs : av_newr own i len pc ls st w = some (pc2, ls2, st2, w2)) : ZB w2 := by
  unfold av_newr at hs
  (repeat' split at hs) <;> first | (cases hs; done) | (cases hs; exact ZB_up hz (fun t n f e => by cases e))
theorem av_new_zb {own i : Nat} (hz : ZB w) (hs : av_new own i len pc ls st w = some (pc2, ls2, st2, w2)) : ZB w2 := by
  unfold av_new at hs
  (repeat' split at hs) <;> first | (cases hs; done) | (cases hs; exact ZB_up hz (fun t n f e => by cases e))

set_option maxHeartbeats 4000000 in
theorem av_step_zb {M : av_M} {i : Instr} (hw : w.1 ≤ 1000) (hz : ZB w) (hs : av_step M i len pc ls st w = some (pc2, ls2, st2, w2)) : ZB w2 := by
  have hsm : w2 = w → ZB w2 := fun h => by subst h; exact hz
  unfold av_step at hs
  split at hs
  · exact hsm (av_ald_sw hs)
  · exact hsm (av_ild_sw hs)
  · exact hsm (av_ild_sw hs)
  · exact hsm (av_lld_sw hs)
  · exact hsm (av_lld_sw hs)
  · exact hsm (av_ist_sw hs)
  · exact hsm (av_ist_sw hs)
  · exact hsm (av_ast_sw hs)
  · exact hsm (av_iinc_sw hs)
  · exact hsm (av_push_sw hs)
  · exact hsm (av_push_sw hs)
  · exact hsm (av_push_sw hs)
  · exact hsm (av_push_sw hs)
  · exact hsm (av_ldc_sw hs)
  · exact hsm (av_ldl_sw hs)
  · exact hsm (av_bin_sw hs)
  · exact hsm (av_bin_sw hs)
  · exact hsm (av_bin_sw hs)
  · exact hsm (av_bin_sw hs)
  · exact hsm (av_bin_sw hs)
  · exact hsm (av_bin_sw hs)
  · exact hsm (av_bin_sw hs)
  · exact hsm (av_bin_sw hs)
  · exact hsm (av_div_sw hs)
  · exact hsm (av_div_sw hs)
  · exact hsm (av_un_sw hs)
  · exact hsm (av_un_sw hs)
  · exact hsm (av_un_sw hs)
  · exact hsm (av_lbin_sw hs)
  · exact hsm (av_lbin_sw hs)
  · exact hsm (av_lbin_sw hs)
  · exact hsm (av_if1_sw hs)
  · exact hsm (av_if1_sw hs)
  · exact hsm (av_if1_sw hs)
  · exact hsm (av_if1_sw hs)
  · exact hsm (av_if1_sw hs)
  · exact hsm (av_if1_sw hs)
  · exact hsm (av_if2_sw hs)
  · exact hsm (av_if2_sw hs)
  · exact hsm (av_if2_sw hs)
  · exact hsm (av_if2_sw hs)
  · exact hsm (av_if2_sw hs)
  · exact hsm (av_if2_sw hs)
  · split at hs
    · obtain ⟨_, _, h⟩ := av_tgt_ok hs
      cases h
      exact hz
    · cases hs
  · exact hsm (av_tab_sw hs)
  · exact hsm (av_getf_sw hs)
  · exact av_putf_zb hz hs
  · split at hs
    · exact hsm (av_sald_sw hs)
    · exact hsm (av_xald_sw hs)
  · exact hsm (av_xald_sw hs)
  · exact av_xast_zb hw hz hs
  · exact av_xast_zb hw hz hs
  · exact hsm (av_rald_sw hs)
  · exact av_rast_zb hz hs
  · split at hs
    · exact hsm (av_slen_sw hs)
    · exact hsm (av_alen_sw hs)
  · exact av_newa_zb hz hs
  · exact av_newa_zb hz hs
  · exact av_newr_zb hz hs
  · exact av_new_zb hz hs
  · exact hsm (av_dup_sw hs)
  · exact hsm (av_dup2_sw hs)
  · exact hsm (av_pop_sw hs)
  · exact hsm (av_ifn_sw hs)
  · exact hsm (av_obj_sw hs)
  · exact hsm (av_mmx_sw hs)
  · cases hs

theorem av_zb : ∀ (f : Nat) (M : av_M) (pc : Nat) (ls : av_L) (st : List Value) (w : av_W) (r : Option Value) (w2 : av_W), w.1 ≤ 1000 → ZB w → arun f M pc ls st w = some (r, w2) → ZB w2 := by
  intro f
  induction f with
  | zero =>
    intro M pc ls st w r w2 hw hz h
    cases h
  | succ f ih =>
    intro M pc ls st w r w2 hw hz h
    unfold arun at h
    split at h
    case h_2 => cases h
    case h_1 =>
    split at h
    case h_1 =>
      cases h
      exact hz
    case h_2 =>
    split at h
    case h_1 =>
      split at h
      case isFalse => cases h
      case isTrue =>
      split at h
      case h_2 => cases h
      case h_1 =>
      rename_i r2 w3 h3
      split at h
      case isFalse => cases h
      case isTrue =>
      exact ih _ _ _ _ _ _ _ (av_sc _ _ _ _ _ _ _ _ hw h3).1 (ih _ _ _ _ _ _ _ hw hz h3) h
    case h_2 =>
      split at h
      case h_2 => cases h
      case h_1 =>
      rename_i hs
      exact ih _ _ _ _ _ _ _ (av_step_sc hw hs).1 (av_step_zb hw hz hs) h

end AVS5

/-! the constructors, by evaluation -/
def av_wE : av_W := (0, 0, fun _ => .inr (0, []))
def wE1 : av_W := (1, 9, av_up av_wE.2.2 0 (.inr (4, av_df 4)))
def bt1 : Option (Option Value × av_W) := arun 3000 MX4_init 0 [some (.ref 0)] [] wE1
def wE2 : av_W := (bt1.getD (none, wE1)).2
def wE3 : av_W := (wE2.1 + 1, wE2.2.1 + 15, av_up wE2.2.2 33 (.inr (5, av_df 5)))
def bt2 : Option (Option Value × av_W) := arun 3000 MX5_init 0 [some (.ref 33)] [] wE3
def wE4 : av_W := (bt2.getD (none, wE3)).2
def isVoid (q : Option (Option Value × av_W)) : Bool := match q with | some (none, _) => true | _ => false
theorem isVoid_ok {q : Option (Option Value × av_W)} {w : av_W} (h : isVoid q = true) : q = some (none, (q.getD (none, w)).2) := by
  unfold isVoid at h
  split at h
  · rfl
  · cases h
theorem bt1_ok : bt1 = some (none, wE2) := isVoid_ok (by decide +kernel)
theorem bt2_ok : bt2 = some (none, wE4) := isVoid_ok (by decide +kernel)
theorem wE2_n : wE2.1 = 33 := by decide +kernel
theorem wE4_n : wE4.1 = 42 ∧ wE4.2.1 ≤ 7302249 := by decide +kernel
theorem wE2_wf : av_wf [some (.ref av_scr), some (.ref 0), none, none] [] wE2 = true := by decide +kernel
theorem wE_zb : ZB wE4 := by
  have z0 : ZB av_wE := fun k t n f _ h => by cases h
  have z1 : ZB wE1 := ZB_up z0 (fun t n f e => by cases e)
  have z2 : ZB wE2 := av_zb _ _ _ _ _ _ _ _ (by show (1 : Nat) ≤ 1000; decide) z1 bt1_ok
  have z3 : ZB wE3 := ZB_up z2 (fun t n f e => by cases e)
  exact av_zb _ _ _ _ _ _ _ _ (by show wE2.1 + 1 ≤ 1000; rw [wE2_n]; decide) z3 bt2_ok
