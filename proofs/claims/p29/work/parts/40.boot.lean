/-! a run that does not read the script is the same with any script; a run that makes no cell makes no slot -/
section AVS4
variable {len pc pc2 : Nat} {ls ls2 : av_L} {st st2 : List Value} {w w2 : av_W} {ev : av_E}
def stW (e : av_E) (w : av_W) : av_W := (w.1, w.2.1, av_up w.2.2 av_scr e)
theorem stW_at {a : Nat} (hw : w.1 ≤ 1000) (h : a < w.1) : (stW ev w).2.2 a = w.2.2 a := if_neg (by unfold av_scr; omega)
theorem stW_up {a : Nat} {x : av_E} (hw : w.1 ≤ 1000) (h : a < w.1) : av_up (av_up w.2.2 av_scr ev) a x = av_up (av_up w.2.2 a x) av_scr ev := by
  funext j
  show (if j = a then x else (if j = av_scr then ev else w.2.2 j)) = (if j = av_scr then ev else (if j = a then x else w.2.2 j))
  by_cases h1 : j = a
  · rw [if_pos h1, if_neg (by unfold av_scr; omega), if_pos h1]
  · rw [if_neg h1, if_neg h1]
theorem stW_up2 {x : av_E} (hw : w.1 < 1000) : av_up (av_up w.2.2 av_scr ev) w.1 x = av_up (av_up w.2.2 w.1 x) av_scr ev := by
  funext j
  show (if j = w.1 then x else (if j = av_scr then ev else w.2.2 j)) = (if j = av_scr then ev else (if j = w.1 then x else w.2.2 j))
  by_cases h1 : j = w.1
  · rw [if_pos h1, if_neg (by unfold av_scr; omega), if_pos h1]
  · rw [if_neg h1, if_neg h1]
theorem stW_ww (hw : w.1 ≤ 1000) (h : av_ww w = true) : av_ww (stW ev w) = true := by
  unfold av_ww at h ⊢
  rw [List.all_eq_true] at h ⊢
  intro k hk
  have q := h k hk
  have hk2 : k < w.1 := List.mem_range.mp hk
  rw [stW_at hw hk2]
  exact q
theorem stW_wf (hw : w.1 ≤ 1000) (h : av_wf ls st w = true) : av_wf ls st (stW ev w) = true := by
  unfold av_wf at h ⊢
  simp only [Bool.and_eq_true] at h ⊢
  exact ⟨h.1, stW_ww hw h.2⟩

theorem av_push_st {n : Nat} {v : Value} (hs : av_push n len pc ls v st w = some (pc2, ls2, st2, w2)) : av_push n len pc ls v st (stW ev w) = some (pc2, ls2, st2, stW ev w2) := by
  unfold av_push at hs ⊢
  try simp only [av_push, av_ifs, av_tgt] at hs ⊢
  (repeat' split at hs) <;> first | (cases hs; done) | (cases hs; simp [*]; done) | (rw [Option.map_eq_some_iff] at hs; obtain ⟨_, h1, h⟩ := hs; cases h; simp [*]; done)

theorem av_ild_st {n i : Nat} (hs : av_ild n i len pc ls st w = some (pc2, ls2, st2, w2)) : av_ild n i len pc ls st (stW ev w) = some (pc2, ls2, st2, stW ev w2) := by
  unfold av_ild at hs ⊢
  try simp only [av_push, av_ifs, av_tgt] at hs ⊢
  (repeat' split at hs) <;> first | (cases hs; done) | (cases hs; simp [*]; done) | (rw [Option.map_eq_some_iff] at hs; obtain ⟨_, h1, h⟩ := hs; cases h; simp [*]; done)

theorem av_lld_st {n i : Nat} (hs : av_lld n i len pc ls st w = some (pc2, ls2, st2, w2)) : av_lld n i len pc ls st (stW ev w) = some (pc2, ls2, st2, stW ev w2) := by
  unfold av_lld at hs ⊢
  try simp only [av_push, av_ifs, av_tgt] at hs ⊢
  (repeat' split at hs) <;> first | (cases hs; done) | (cases hs; simp [*]; done) | (rw [Option.map_eq_some_iff] at hs; obtain ⟨_, h1, h⟩ := hs; cases h; simp [*]; done)

theorem av_ald_st {n i : Nat} (hs : av_ald n i len pc ls st w = some (pc2, ls2, st2, w2)) : av_ald n i len pc ls st (stW ev w) = some (pc2, ls2, st2, stW ev w2) := by
  unfold av_ald at hs ⊢
  try simp only [av_push, av_ifs, av_tgt] at hs ⊢
  (repeat' split at hs) <;> first | (cases hs; done) | (cases hs; simp [*]; done) | (rw [Option.map_eq_some_iff] at hs; obtain ⟨_, h1, h⟩ := hs; cases h; simp [*]; done)

theorem av_ist_st {n i : Nat} (hs : av_ist n i len pc ls st w = some (pc2, ls2, st2, w2)) : av_ist n i len pc ls st (stW ev w) = some (pc2, ls2, st2, stW ev w2) := by
  unfold av_ist at hs ⊢
  try simp only [av_push, av_ifs, av_tgt] at hs ⊢
  (repeat' split at hs) <;> first | (cases hs; done) | (cases hs; simp [*]; done) | (rw [Option.map_eq_some_iff] at hs; obtain ⟨_, h1, h⟩ := hs; cases h; simp [*]; done)

theorem av_ast_st {n i : Nat} (hs : av_ast n i len pc ls st w = some (pc2, ls2, st2, w2)) : av_ast n i len pc ls st (stW ev w) = some (pc2, ls2, st2, stW ev w2) := by
  unfold av_ast at hs ⊢
  try simp only [av_push, av_ifs, av_tgt] at hs ⊢
  (repeat' split at hs) <;> first | (cases hs; done) | (cases hs; simp [*]; done) | (rw [Option.map_eq_some_iff] at hs; obtain ⟨_, h1, h⟩ := hs; cases h; simp [*]; done)

theorem av_iinc_st {i : Nat} {n : Int} (hs : av_iinc i n len pc ls st w = some (pc2, ls2, st2, w2)) : av_iinc i n len pc ls st (stW ev w) = some (pc2, ls2, st2, stW ev w2) := by
  unfold av_iinc at hs ⊢
  try simp only [av_push, av_ifs, av_tgt] at hs ⊢
  (repeat' split at hs) <;> first | (cases hs; done) | (cases hs; simp [*]; done) | (rw [Option.map_eq_some_iff] at hs; obtain ⟨_, h1, h⟩ := hs; cases h; simp [*]; done)

theorem av_bin_st {f : Int32 → Int32 → Int32} (hs : av_bin f len pc ls st w = some (pc2, ls2, st2, w2)) : av_bin f len pc ls st (stW ev w) = some (pc2, ls2, st2, stW ev w2) := by
  unfold av_bin at hs ⊢
  try simp only [av_push, av_ifs, av_tgt] at hs ⊢
  (repeat' split at hs) <;> first | (cases hs; done) | (cases hs; simp [*]; done) | (rw [Option.map_eq_some_iff] at hs; obtain ⟨_, h1, h⟩ := hs; cases h; simp [*]; done)

theorem av_div_st {f : Int32 → Int32 → Int32} (hs : av_div f len pc ls st w = some (pc2, ls2, st2, w2)) : av_div f len pc ls st (stW ev w) = some (pc2, ls2, st2, stW ev w2) := by
  unfold av_div at hs ⊢
  try simp only [av_push, av_ifs, av_tgt] at hs ⊢
  (repeat' split at hs) <;> first | (cases hs; done) | (cases hs; simp [*]; done) | (rw [Option.map_eq_some_iff] at hs; obtain ⟨_, h1, h⟩ := hs; cases h; simp [*]; done)

theorem av_lbin_st {f : Int64 → Int64 → Value} (hs : av_lbin f len pc ls st w = some (pc2, ls2, st2, w2)) : av_lbin f len pc ls st (stW ev w) = some (pc2, ls2, st2, stW ev w2) := by
  unfold av_lbin at hs ⊢
  try simp only [av_push, av_ifs, av_tgt] at hs ⊢
  (repeat' split at hs) <;> first | (cases hs; done) | (cases hs; simp [*]; done) | (rw [Option.map_eq_some_iff] at hs; obtain ⟨_, h1, h⟩ := hs; cases h; simp [*]; done)

theorem av_un_st {f : Int32 → Value} (hs : av_un f len pc ls st w = some (pc2, ls2, st2, w2)) : av_un f len pc ls st (stW ev w) = some (pc2, ls2, st2, stW ev w2) := by
  unfold av_un at hs ⊢
  try simp only [av_push, av_ifs, av_tgt] at hs ⊢
  (repeat' split at hs) <;> first | (cases hs; done) | (cases hs; simp [*]; done) | (rw [Option.map_eq_some_iff] at hs; obtain ⟨_, h1, h⟩ := hs; cases h; simp [*]; done)

theorem av_if1_st {cnd : Int32 → Prop} {dc : ∀ x, Decidable (cnd x)} {off : Int} (hs : av_if1 cnd off len pc ls st w = some (pc2, ls2, st2, w2)) : av_if1 cnd off len pc ls st (stW ev w) = some (pc2, ls2, st2, stW ev w2) := by
  unfold av_if1 at hs ⊢
  try simp only [av_push, av_ifs, av_tgt] at hs ⊢
  (repeat' split at hs) <;> first | (cases hs; done) | (cases hs; simp [*]; done) | (rw [Option.map_eq_some_iff] at hs; obtain ⟨_, h1, h⟩ := hs; cases h; simp [*]; done)

theorem av_if2_st {cnd : Int32 → Int32 → Prop} {dc : ∀ x y, Decidable (cnd x y)} {off : Int} (hs : av_if2 cnd off len pc ls st w = some (pc2, ls2, st2, w2)) : av_if2 cnd off len pc ls st (stW ev w) = some (pc2, ls2, st2, stW ev w2) := by
  unfold av_if2 at hs ⊢
  try simp only [av_push, av_ifs, av_tgt] at hs ⊢
  (repeat' split at hs) <;> first | (cases hs; done) | (cases hs; simp [*]; done) | (rw [Option.map_eq_some_iff] at hs; obtain ⟨_, h1, h⟩ := hs; cases h; simp [*]; done)

theorem av_tab_st {dflt lo hi : Int} {offs : Array Int} (hs : av_tab dflt lo hi offs pc ls st w = some (pc2, ls2, st2, w2)) : av_tab dflt lo hi offs pc ls st (stW ev w) = some (pc2, ls2, st2, stW ev w2) := by
  unfold av_tab at hs ⊢
  try simp only [av_push, av_ifs, av_tgt] at hs ⊢
  (repeat' split at hs) <;> first | (cases hs; done) | (cases hs; simp [*]; done) | (rw [Option.map_eq_some_iff] at hs; obtain ⟨_, h1, h⟩ := hs; cases h; simp [*]; done)

theorem av_dup_st  (hs : av_dup len pc ls st w = some (pc2, ls2, st2, w2)) : av_dup len pc ls st (stW ev w) = some (pc2, ls2, st2, stW ev w2) := by
  unfold av_dup at hs ⊢
  try simp only [av_push, av_ifs, av_tgt] at hs ⊢
  (repeat' split at hs) <;> first | (cases hs; done) | (cases hs; simp [*]; done) | (rw [Option.map_eq_some_iff] at hs; obtain ⟨_, h1, h⟩ := hs; cases h; simp [*]; done)

theorem av_dup2_st  (hs : av_dup2 len pc ls st w = some (pc2, ls2, st2, w2)) : av_dup2 len pc ls st (stW ev w) = some (pc2, ls2, st2, stW ev w2) := by
  unfold av_dup2 at hs ⊢
  try simp only [av_push, av_ifs, av_tgt] at hs ⊢
  (repeat' split at hs) <;> first | (cases hs; done) | (cases hs; simp [*]; done) | (rw [Option.map_eq_some_iff] at hs; obtain ⟨_, h1, h⟩ := hs; cases h; simp [*]; done)

theorem av_pop_st  (hs : av_pop len pc ls st w = some (pc2, ls2, st2, w2)) : av_pop len pc ls st (stW ev w) = some (pc2, ls2, st2, stW ev w2) := by
  unfold av_pop at hs ⊢
  try simp only [av_push, av_ifs, av_tgt] at hs ⊢
  (repeat' split at hs) <;> first | (cases hs; done) | (cases hs; simp [*]; done) | (rw [Option.map_eq_some_iff] at hs; obtain ⟨_, h1, h⟩ := hs; cases h; simp [*]; done)

theorem av_ifn_st  (hs : av_ifn len pc ls st w = some (pc2, ls2, st2, w2)) : av_ifn len pc ls st (stW ev w) = some (pc2, ls2, st2, stW ev w2) := by
  unfold av_ifn at hs ⊢
  try simp only [av_push, av_ifs, av_tgt] at hs ⊢
  (repeat' split at hs) <;> first | (cases hs; done) | (cases hs; simp [*]; done) | (rw [Option.map_eq_some_iff] at hs; obtain ⟨_, h1, h⟩ := hs; cases h; simp [*]; done)

theorem av_ldc_st {own i : Nat} (hs : av_ldc own i len pc ls st w = some (pc2, ls2, st2, w2)) : av_ldc own i len pc ls st (stW ev w) = some (pc2, ls2, st2, stW ev w2) := by
  unfold av_ldc at hs ⊢
  try simp only [av_push, av_ifs, av_tgt] at hs ⊢
  (repeat' split at hs) <;> first | (cases hs; done) | (cases hs; simp [*]; done) | (rw [Option.map_eq_some_iff] at hs; obtain ⟨_, h1, h⟩ := hs; cases h; simp [*]; done)

theorem av_ldl_st {own i : Nat} (hs : av_ldl own i len pc ls st w = some (pc2, ls2, st2, w2)) : av_ldl own i len pc ls st (stW ev w) = some (pc2, ls2, st2, stW ev w2) := by
  unfold av_ldl at hs ⊢
  try simp only [av_push, av_ifs, av_tgt] at hs ⊢
  (repeat' split at hs) <;> first | (cases hs; done) | (cases hs; simp [*]; done) | (rw [Option.map_eq_some_iff] at hs; obtain ⟨_, h1, h⟩ := hs; cases h; simp [*]; done)

theorem av_obj_st {own i h : Nat} (hs : av_obj own i h len pc ls st w = some (pc2, ls2, st2, w2)) : av_obj own i h len pc ls st (stW ev w) = some (pc2, ls2, st2, stW ev w2) := by
  unfold av_obj at hs ⊢
  try simp only [av_push, av_ifs, av_tgt] at hs ⊢
  (repeat' split at hs) <;> first | (cases hs; done) | (cases hs; simp [*]; done) | (rw [Option.map_eq_some_iff] at hs; obtain ⟨_, h1, h⟩ := hs; cases h; simp [*]; done)

theorem av_mmx_st {own i h : Nat} (hs : av_mmx own i h len pc ls st w = some (pc2, ls2, st2, w2)) : av_mmx own i h len pc ls st (stW ev w) = some (pc2, ls2, st2, stW ev w2) := by
  unfold av_mmx at hs ⊢
  try simp only [av_push, av_ifs, av_tgt] at hs ⊢
  (repeat' split at hs) <;> first | (cases hs; done) | (cases hs; simp [*]; done) | (rw [Option.map_eq_some_iff] at hs; obtain ⟨_, h1, h⟩ := hs; cases h; simp [*]; done)

theorem av_getf_st {own i : Nat} (hw : w.1 ≤ 1000) (hs : av_getf own i len pc ls st w = some (pc2, ls2, st2, w2)) : av_getf own i len pc ls st (stW ev w) = some (pc2, ls2, st2, stW ev w2) := by
  unfold av_getf at hs ⊢
  split at hs
  case h_2 => cases hs
  case h_1 a rest =>
  split at hs
  case isFalse => cases hs
  case isTrue h0 =>
  try dsimp only
  rw [stW_at hw h0.1]
  (repeat' split at hs) <;> first | (cases hs; done) | (cases hs; simp [*, stW]; done)

theorem av_xald_st {t : Nat} (hw : w.1 ≤ 1000) (hs : av_xald t len pc ls st w = some (pc2, ls2, st2, w2)) : av_xald t len pc ls st (stW ev w) = some (pc2, ls2, st2, stW ev w2) := by
  unfold av_xald at hs ⊢
  split at hs
  case h_2 => cases hs
  case h_1 i a rest =>
  split at hs
  case h_2 => cases hs
  case h_1 h9 =>
  split at hs
  case isFalse => cases hs
  case isTrue h0 =>
  try dsimp only
  rw [stW_at hw h0.1, h9]
  try dsimp only
  refine (if_pos h0).trans ?_
  (repeat' split at hs) <;> first | (cases hs; done) | (cases hs; rfl) | (cases hs; simp [*]; done)

theorem av_rald_st  (hw : w.1 ≤ 1000) (hs : av_rald len pc ls st w = some (pc2, ls2, st2, w2)) : av_rald len pc ls st (stW ev w) = some (pc2, ls2, st2, stW ev w2) := by
  unfold av_rald at hs ⊢
  split at hs
  case h_2 => cases hs
  case h_1 i a rest =>
  split at hs
  case h_2 => cases hs
  case h_1 h9 =>
  split at hs
  case isFalse => cases hs
  case isTrue h0 =>
  try dsimp only
  rw [stW_at hw h0.1, h9]
  try dsimp only
  refine (if_pos h0).trans ?_
  (repeat' split at hs) <;> first | (cases hs; done) | (cases hs; rfl) | (cases hs; simp [*]; done)

theorem av_alen_st  (hw : w.1 ≤ 1000) (hs : av_alen len pc ls st w = some (pc2, ls2, st2, w2)) : av_alen len pc ls st (stW ev w) = some (pc2, ls2, st2, stW ev w2) := by
  unfold av_alen at hs ⊢
  split at hs
  case h_2 => cases hs
  case h_1 a rest =>
  split at hs
  case h_2 => cases hs
  case h_1 h9 =>
  split at hs
  case isFalse => cases hs
  case isTrue h0 =>
  try dsimp only
  rw [stW_at hw h0.1, h9]
  try dsimp only
  refine (if_pos h0).trans ?_
  cases hs
  rfl

theorem av_putf_st {own i : Nat} {b : Bool} (hw : w.1 ≤ 1000) (hs : av_putf own b i len pc ls st w = some (pc2, ls2, st2, w2)) : av_putf own b i len pc ls st (stW ev w) = some (pc2, ls2, st2, stW ev w2) := by
  unfold av_putf at hs ⊢
  split at hs
  case h_2 => cases hs
  case h_1 v a rest =>
  split at hs
  case isFalse => cases hs
  case isTrue h0 =>
  try dsimp only
  rw [stW_at hw h0.1]
  (repeat' split at hs) <;> first | (cases hs; done) | (cases hs; simp [*, stW, stW_up hw h0.1]; done)

theorem av_xast_st {g : Int32 → Int32} {t : Nat} (hw : w.1 ≤ 1000) (hs : av_xast g t len pc ls st w = some (pc2, ls2, st2, w2)) : av_xast g t len pc ls st (stW ev w) = some (pc2, ls2, st2, stW ev w2) := by
  unfold av_xast at hs ⊢
  split at hs
  case h_2 => cases hs
  case h_1 x i a rest =>
  split at hs
  case h_2 => cases hs
  case h_1 h9 =>
  split at hs
  case isFalse => cases hs
  case isTrue h0 =>
  cases hs
  try dsimp only
  rw [stW_at hw h0.1, h9]
  try dsimp only
  refine (if_pos h0).trans ?_
  simp only [stW, stW_up hw h0.1]

theorem av_rast_st  (hw : w.1 ≤ 1000) (hs : av_rast len pc ls st w = some (pc2, ls2, st2, w2)) : av_rast len pc ls st (stW ev w) = some (pc2, ls2, st2, stW ev w2) := by
  unfold av_rast at hs ⊢
  split at hs
  case h_2 => cases hs
  case h_1 v i a rest =>
  split at hs
  case h_2 => cases hs
  case h_1 h9 h8 =>
  split at hs
  case isFalse => cases hs
  case isTrue h0 =>
  cases hs
  try dsimp only
  rw [stW_at hw h0.1.1, stW_at hw h0.1.2, h9, h8]
  try dsimp only
  refine (if_pos h0).trans ?_
  simp only [stW, stW_up hw h0.1.1]

theorem av_newa_st {t : Nat} (hw : w.1 ≤ 1000) (hs : av_newa t len pc ls st w = some (pc2, ls2, st2, w2)) : av_newa t len pc ls st (stW ev w) = some (pc2, ls2, st2, stW ev w2) := by
  unfold av_newa at hs ⊢
  split at hs
  case h_2 => cases hs
  case h_1 =>
  split at hs
  case isFalse => cases hs
  case isTrue h0 =>
  have h9 := h0.2.2.2
  simp only [av_wf, Bool.and_eq_true, decide_eq_true_eq] at h9
  cases hs
  try dsimp only
  rw [if_pos ⟨h0.1, h0.2.1, h0.2.2.1, stW_wf hw h0.2.2.2⟩]
  simp only [stW, stW_up2 h9.1.1.1]

theorem av_newr_st {own i : Nat} (hw : w.1 ≤ 1000) (hs : av_newr own i len pc ls st w = some (pc2, ls2, st2, w2)) : av_newr own i len pc ls st (stW ev w) = some (pc2, ls2, st2, stW ev w2) := by
  unfold av_newr at hs ⊢
  split at hs
  case h_2 => cases hs
  case h_1 =>
  split at hs
  case isFalse => cases hs
  case isTrue h0 =>
  have h9 := h0.2.2.2
  simp only [av_wf, Bool.and_eq_true, decide_eq_true_eq] at h9
  cases hs
  try dsimp only
  rw [if_pos ⟨h0.1, h0.2.1, h0.2.2.1, stW_wf hw h0.2.2.2⟩]
  simp only [stW, stW_up2 h9.1.1.1]

theorem av_new_st {own i : Nat} (hw : w.1 ≤ 1000) (hs : av_new own i len pc ls st w = some (pc2, ls2, st2, w2)) : av_new own i len pc ls st (stW ev w) = some (pc2, ls2, st2, stW ev w2) := by
  unfold av_new at hs ⊢
  split at hs
  case h_2 => cases hs
  case h_1 =>
  split at hs
  case isFalse => cases hs
  case isTrue h0 =>
  have h9 := h0.2
  simp only [av_wf, Bool.and_eq_true, decide_eq_true_eq] at h9
  cases hs
  try dsimp only
  rw [if_pos ⟨h0.1, stW_wf hw h0.2⟩]
  simp only [stW, stW_up2 h9.1.1.1]

theorem av_gt_st {off : Int} (hs : (if len = 3 then av_tgt pc off (fun t => some (t, ls, st, w)) else none) = some (pc2, ls2, st2, w2)) : (if len = 3 then av_tgt pc off (fun t => some (t, ls, st, stW ev w)) else none) = some (pc2, ls2, st2, stW ev w2) := by
  unfold av_tgt at hs ⊢
  (repeat' split at hs) <;> first | (cases hs; done) | (cases hs; simp [*]; done)
set_option maxHeartbeats 4000000 in
theorem av_step_st {M : av_M} {i : Instr} (hM : ¬ M.2.2.2.2.1 = 99) (hw : w.1 ≤ 1000) (hs : av_step M i len pc ls st w = some (pc2, ls2, st2, w2)) : av_step M i len pc ls st (stW ev w) = some (pc2, ls2, st2, stW ev w2) := by
  unfold av_step at hs
  split at hs
  · exact av_ald_st hs
  · exact av_ild_st hs
  · exact av_ild_st hs
  · exact av_lld_st hs
  · exact av_lld_st hs
  · exact av_ist_st hs
  · exact av_ist_st hs
  · exact av_ast_st hs
  · exact av_iinc_st hs
  · exact av_push_st hs
  · exact av_push_st hs
  · exact av_push_st hs
  · exact av_push_st hs
  · exact av_ldc_st hs
  · exact av_ldl_st hs
  · exact av_bin_st hs
  · exact av_bin_st hs
  · exact av_bin_st hs
  · exact av_bin_st hs
  · exact av_bin_st hs
  · exact av_bin_st hs
  · exact av_bin_st hs
  · exact av_bin_st hs
  · exact av_div_st hs
  · exact av_div_st hs
  · exact av_un_st hs
  · exact av_un_st hs
  · exact av_un_st hs
  · exact av_lbin_st hs
  · exact av_lbin_st hs
  · exact av_lbin_st hs
  · exact av_if1_st hs
  · exact av_if1_st hs
  · exact av_if1_st hs
  · exact av_if1_st hs
  · exact av_if1_st hs
  · exact av_if1_st hs
  · exact av_if2_st hs
  · exact av_if2_st hs
  · exact av_if2_st hs
  · exact av_if2_st hs
  · exact av_if2_st hs
  · exact av_if2_st hs
  · exact av_gt_st hs
  · exact av_tab_st hs
  · exact av_getf_st hw hs
  · exact av_putf_st hw hs
  · rw [if_neg hM] at hs
    exact (if_neg hM).trans (av_xald_st hw hs)
  · exact av_xald_st hw hs
  · exact av_xast_st hw hs
  · exact av_xast_st hw hs
  · exact av_rald_st hw hs
  · exact av_rast_st hw hs
  · rw [if_neg hM] at hs
    exact (if_neg hM).trans (av_alen_st hw hs)
  · exact av_newa_st hw hs
  · exact av_newa_st hw hs
  · exact av_newr_st hw hs
  · exact av_new_st hw hs
  · exact av_dup_st hs
  · exact av_dup2_st hs
  · exact av_pop_st hs
  · exact av_ifn_st hs
  · exact av_obj_st hs
  · exact av_mmx_st hs
  · cases hs

theorem av_res_own {own i k : Nat} {M : av_M} (ho : ¬ own = 99) (hf : av_res own i = some (k, M)) : ¬ M.2.2.2.2.1 = 99 := by
  rcases av_res_99 hf with q | q
  · omega
  · exact absurd q.1 ho
theorem av_inv_own {M M2 : av_M} {i : Instr} {k : Nat} {as rest : List Value} (hM : ¬ M.2.2.2.2.1 = 99) (h : av_inv M i len st = some (k, M2, as, rest)) : ¬ M2.2.2.2.2.1 = 99 := by
  have key : ∀ (idx : Nat) (ks : List Nat) (stat : Bool), av_cut M len idx ks stat st = some (k, M2, as, rest) → ¬ M2.2.2.2.2.1 = 99 := by
    intro idx ks stat hc
    exact av_res_own hM (av_cut_ok hc).2.2.1
  unfold av_inv at h
  split at h
  · exact key _ _ _ h
  · exact key _ _ _ h
  · exact key _ _ _ h
  · cases h
theorem stW_rcv {k : Nat} {M2 : av_M} {as : List Value} (hw : w.1 ≤ 1000) (h : av_rcv k M2 as w = true) : av_rcv k M2 as (stW ev w) = true := by
  unfold av_rcv at h ⊢
  split at h
  · rfl
  · rfl
  · rfl
  · rfl
  · simp only [Bool.and_eq_true, decide_eq_true_eq] at h ⊢
    refine ⟨h.1, ?_⟩
    rw [stW_at hw h.1]
    exact h.2
  · cases h
theorem arun_st (ev : av_E) : ∀ (f : Nat) (M : av_M) (pc : Nat) (ls : av_L) (st : List Value) (w : av_W) (r : Option Value) (w2 : av_W), ¬ M.2.2.2.2.1 = 99 → w.1 ≤ 1000 → arun f M pc ls st w = some (r, w2) → arun f M pc ls st (stW ev w) = some (r, stW ev w2) := by
  intro f
  induction f with
  | zero =>
    intro M pc ls st w r w2 hM hw h
    cases h
  | succ f ih =>
    intro M pc ls st w r w2 hM hw h
    unfold arun at h ⊢
    split at h
    case h_2 => cases h
    case h_1 hd =>
    try rw [hd]
    try dsimp only
    split at h
    case h_1 hr =>
      cases h
      first | rfl | rw [hr]
    case h_2 hr =>
    try rw [hr]
    try dsimp only
    split at h
    case h_1 hi =>
      try rw [hi]
      try dsimp only
      split at h
      case isFalse => cases h
      case isTrue h0 =>
      rw [if_pos ⟨stW_rcv hw h0.1, h0.2⟩]
      split at h
      case h_2 => cases h
      case h_1 h3 =>
      rw [ih _ _ _ _ _ _ _ (av_inv_own hM hi) hw h3]
      try dsimp only
      split at h
      case isFalse => cases h
      case isTrue h4 =>
      have h5 : ∀ {ls : av_L} {rest : List Value} {w w3 : av_W}, av_back ls rest w w3 = true → av_back ls rest (stW ev w) (stW ev w3) = true := fun q => q
      rw [if_pos (h5 h4)]
      exact ih _ _ _ _ _ _ _ hM (av_sc _ _ _ _ _ _ _ _ hw h3).1 h
    case h_2 hi =>
      try rw [hi]
      try dsimp only
      split at h
      case h_2 => cases h
      case h_1 hs =>
      rw [av_step_st hM hw hs]
      exact ih _ _ _ _ _ _ _ hM (av_step_sc hw hs).1 h

theorem av_newa_mk {t : Nat} (hs : av_newa t len pc ls st w = some (pc2, ls2, st2, w2)) : w.1 ≤ w2.1 ∧ (w2.1 = w.1 → w2.2.1 = w.2.1) := by
  unfold av_newa at hs
  (repeat' split at hs) <;> first | (cases hs; done) | (cases hs; exact ⟨Nat.le_succ _, fun q => absurd q (Nat.succ_ne_self _)⟩)
theorem av_newr_mk {own i : Nat} (hs : av_newr own i len pc ls st w = some (pc2, ls2, st2, w2)) : w.1 ≤ w2.1 ∧ (w2.1 = w.1 → w2.2.1 = w.2.1) := by
  unfold av_newr at hs
  (repeat' split at hs) <;> first | (cases hs; done) | (cases hs; exact ⟨Nat.le_succ _, fun q => absurd q (Nat.succ_ne_self _)⟩)
theorem av_new_mk {own i : Nat} (hs : av_new own i len pc ls st w = some (pc2, ls2, st2, w2)) : w.1 ≤ w2.1 ∧ (w2.1 = w.1 → w2.2.1 = w.2.1) := by
  unfold av_new at hs
  (repeat' split at hs) <;> first | (cases hs; done) | (cases hs; exact ⟨Nat.le_succ _, fun q => absurd q (Nat.succ_ne_self _)⟩)
set_option maxHeartbeats 4000000 in
theorem av_step_mk {M : av_M} {i : Instr} (hs : av_step M i len pc ls st w = some (pc2, ls2, st2, w2)) : w.1 ≤ w2.1 ∧ (w2.1 = w.1 → w2.2.1 = w.2.1) := by
  have hsm : w2.1 = w.1 ∧ w2.2.1 = w.2.1 → w.1 ≤ w2.1 ∧ (w2.1 = w.1 → w2.2.1 = w.2.1) := fun h => ⟨Nat.le_of_eq h.1.symm, fun _ => h.2⟩
  unfold av_step at hs
  split at hs
  · exact hsm (av_ald_sm hs)
  · exact hsm (av_ild_sm hs)
  · exact hsm (av_ild_sm hs)
  · exact hsm (av_lld_sm hs)
  · exact hsm (av_lld_sm hs)
  · exact hsm (av_ist_sm hs)
  · exact hsm (av_ist_sm hs)
  · exact hsm (av_ast_sm hs)
  · exact hsm (av_iinc_sm hs)
  · exact hsm (av_push_sm hs)
  · exact hsm (av_push_sm hs)
  · exact hsm (av_push_sm hs)
  · exact hsm (av_push_sm hs)
  · exact hsm (av_ldc_sm hs)
  · exact hsm (av_ldl_sm hs)
  · exact hsm (av_bin_sm hs)
  · exact hsm (av_bin_sm hs)
  · exact hsm (av_bin_sm hs)
  · exact hsm (av_bin_sm hs)
  · exact hsm (av_bin_sm hs)
  · exact hsm (av_bin_sm hs)
  · exact hsm (av_bin_sm hs)
  · exact hsm (av_bin_sm hs)
  · exact hsm (av_div_sm hs)
  · exact hsm (av_div_sm hs)
  · exact hsm (av_un_sm hs)
  · exact hsm (av_un_sm hs)
  · exact hsm (av_un_sm hs)
  · exact hsm (av_lbin_sm hs)
  · exact hsm (av_lbin_sm hs)
  · exact hsm (av_lbin_sm hs)
  · exact hsm (av_if1_sm hs)
  · exact hsm (av_if1_sm hs)
  · exact hsm (av_if1_sm hs)
  · exact hsm (av_if1_sm hs)
  · exact hsm (av_if1_sm hs)
  · exact hsm (av_if1_sm hs)
  · exact hsm (av_if2_sm hs)
  · exact hsm (av_if2_sm hs)
  · exact hsm (av_if2_sm hs)
  · exact hsm (av_if2_sm hs)
  · exact hsm (av_if2_sm hs)
  · exact hsm (av_if2_sm hs)
  · split at hs
    · obtain ⟨_, _, h⟩ := av_tgt_ok hs
      cases h
      exact ⟨Nat.le_refl _, fun _ => rfl⟩
    · cases hs
  · exact hsm (av_tab_sm hs)
  · exact hsm (av_getf_sm hs)
  · exact hsm (av_putf_sm hs)
  · split at hs
    · exact hsm (av_sald_sm hs)
    · exact hsm (av_xald_sm hs)
  · exact hsm (av_xald_sm hs)
  · exact hsm (av_xast_sm hs)
  · exact hsm (av_xast_sm hs)
  · exact hsm (av_rald_sm hs)
  · exact hsm (av_rast_sm hs)
  · split at hs
    · exact hsm (av_slen_sm hs)
    · exact hsm (av_alen_sm hs)
  · exact av_newa_mk hs
  · exact av_newa_mk hs
  · exact av_newr_mk hs
  · exact av_new_mk hs
  · exact hsm (av_dup_sm hs)
  · exact hsm (av_dup2_sm hs)
  · exact hsm (av_pop_sm hs)
  · exact hsm (av_ifn_sm hs)
  · exact hsm (av_obj_sm hs)
  · exact hsm (av_mmx_sm hs)
  · cases hs

theorem av_mk : ∀ (f : Nat) (M : av_M) (pc : Nat) (ls : av_L) (st : List Value) (w : av_W) (r : Option Value) (w2 : av_W), arun f M pc ls st w = some (r, w2) → w.1 ≤ w2.1 ∧ (w2.1 = w.1 → w2.2.1 = w.2.1) := by
  intro f
  induction f with
  | zero =>
    intro M pc ls st w r w2 h
    cases h
  | succ f ih =>
    intro M pc ls st w r w2 h
    unfold arun at h
    split at h
    case h_2 => cases h
    case h_1 =>
    split at h
    case h_1 =>
      cases h
      exact ⟨Nat.le_refl _, fun _ => rfl⟩
    case h_2 =>
    split at h
    case h_1 =>
      split at h
      case isFalse => cases h
      case isTrue =>
      split at h
      case h_2 => cases h
      case h_1 =>
      rename_i r2 w3 h3
      split at h
      case isFalse => cases h
      case isTrue =>
      have q1 := ih _ _ _ _ _ _ _ h3
      have q2 := ih _ _ _ _ _ _ _ h
      exact ⟨Nat.le_trans q1.1 q2.1, fun q => (q2.2 (Nat.le_antisymm (q ▸ q1.1) q2.1)).trans (q1.2 (Nat.le_antisymm (q ▸ q2.1) q1.1))⟩
    case h_2 =>
      split at h
      case h_2 => cases h
      case h_1 =>
      rename_i hs
      have q1 := av_step_mk hs
      have q2 := ih _ _ _ _ _ _ _ h
      exact ⟨Nat.le_trans q1.1 q2.1, fun q => (q2.2 (Nat.le_antisymm (q ▸ q1.1) q2.1)).trans (q1.2 (Nat.le_antisymm (q ▸ q2.1) q1.1))⟩

end AVS4
