/-! ===== the machine is sound, 2: making cells, any step, calls, whole runs ===== -/
theorem av_LH.ext {ad ad2 : Nat → Nat} {n nL : Nat} {LS : Array Slot} {ls : av_L} (h : av_agr n ad ad2) (hl : av_wl n ls = true) (X : av_LH ad LS nL ls) : av_LH ad2 LS nL ls := by
  refine ⟨X.1, X.2.1, X.2.2.1, ?_⟩
  rintro ⟨i, x⟩ hq
  obtain ⟨v, hv, rfl⟩ := av_as_mem.mp hq
  have h1 := List.all_eq_true.mp hl _ (List.mem_of_getElem? hv)
  rw [av_cv_ext h h1]
  exact X.get hv
theorem av_dfc (ad : Nat → Nat) (ci : Nat) : (av_df ci).map (av_cv ad) = av_df ci := by
  unfold av_df
  split <;> rfl
section AVS2
variable {p : Program} {l : Launch} {e : Env} {R : Room} {s : State} {m : MethodId} {args : Array Value} {below : List Frame} {meth : Method} {c : Code} {cells slots : Nat} {Q : State → Prop}
variable {D : va_G} {kk : Nat → ClassId} {A : Nat → Prop} {ad : Nat → Nat} {len pc pc2 : Nat} {ls ls2 : av_L} {st st2 : List Value} {w w2 : av_W}
theorem av_born {M : av_M} {q : Nat} {H1 : Heap} {locs : List Loc} {LS : Array Slot} {rest : List Value} {z : Nat} {ev : av_E} {e2 : va_E} (hwf : av_wf ls rest w = true) (hL : av_LH ad LS M.2.2.1 ls) (he : av_cE (fun k => if k = w.1 then q else ad k) kk ev = e2)
    (hP : va_P D vwCl (av_cW ad kk w ++ [(q, e2)]) H1) (hD : va_D A (av_cW ad kk w ++ [(q, e2)])) (hS : va_S A s.heap H1 locs)
    (k : ∀ ad2 : Nat → Nat, av_agr w.1 ad ad2 → (w.1 + 1 = w.1 → ad2 = ad) → av_go p l e R s m args below meth c D kk A ad2 M.2.2.1 (cells + 1) (slots + z) Q pc2 ls (.ref w.1 :: rest) (w.1 + 1, w.2.1 + z, av_up w.2.2 w.1 ev)) : W p l e R s m args below meth c H1 locs (cells + 1) (slots + z) Q (F0 m pc2 LS (.ref q :: rest.map (av_cv ad))) := by
  simp only [av_wf, Bool.and_eq_true, decide_eq_true_eq] at hwf
  have hx : av_agr w.1 ad (fun j => if j = w.1 then q else ad j) := av_agr_new hwf.1.1.1
  have k1 := k (fun j => if j = w.1 then q else ad j) hx (fun h => by omega)
  have k2 := k1 H1 locs LS ⟨by rw [av_cW_app hwf.1.1.1 hwf.2 he]; exact hP, by rw [av_cW_app hwf.1.1.1 hwf.2 he]; exact hD, hS, hL.ext hx hwf.1.1.2⟩
  have e3 : List.map (av_cv (fun j => if j = w.1 then q else ad j)) (Value.ref w.1 :: rest) = .ref q :: rest.map (av_cv ad) := by
    rw [List.map_cons, av_cvs_ext hx hwf.1.2]
    simp [av_cv]
  rw [e3] at k2
  exact k2
theorem av_newi_ok {M : av_M} (Fx : av_Fx p m c s args D kk meth M) (hA : ∀ q, s.heap.size ≤ q → A q) (hd : decode M.2.1 pc = .ok (.newarray .int, len)) (hs : av_newa 0 len pc ls st w = some (pc2, ls2, st2, w2)) (hc : cells + (w2.1 - w.1) ≤ R.cells ∧ slots + (w2.2.1 - w.2.1) ≤ R.slots)
    (k : ∀ ad2 : Nat → Nat, av_agr w.1 ad ad2 → (w2.1 = w.1 → ad2 = ad) → av_go p l e R s m args below meth c D kk A ad2 M.2.2.1 (cells + (w2.1 - w.1)) (slots + (w2.2.1 - w.2.1)) Q pc2 ls2 st2 w2) : av_go p l e R s m args below meth c D kk A ad M.2.2.1 cells slots Q pc ls st w := by
  obtain ⟨hx, hb, hml, hown, hts, hK, hnm⟩ := Fx
  unfold av_newa at hs
  split at hs
  case h_2 => cases hs
  case h_1 =>
  rename_i n rest
  split at hs
  case isFalse => cases hs
  case isTrue h0 =>
  obtain ⟨rfl, hn, hbig, hwf⟩ := h0
  cases hs
  have e1 : w.1 + 1 - w.1 = 1 := by omega
  have e2 : w.2.1 + n.toNatClampNeg - w.2.1 = n.toNatClampNeg := by omega
  simp only [e1, e2] at hc k
  have h9 : componentBytes .int ≤ 4 := by decide
  have hby : n.toNatClampNeg * componentBytes .int ≤ 536870912 := Nat.le_trans (Nat.mul_le_mul hbig h9) (Nat.le_of_ble_eq_true rfl)
  intro H locs LS X
  refine va_newa (atype := .int) (ty := .int) (a0 := (n.toNatClampNeg, .inl (fun _ => 0))) (ws := av_cW ad kk w) hx hb (hts _ (av_inA_ws av_arr_ok.1)) rfl hK.1 X.1 X.2.1 X.2.2.1 hA (fun cA => rfl) hn rfl hby hc.1 hc.2 hd (fun q cA H1 hK2 hP hD hS => ?_)
  have hcA : cA = kk 0 := by
    have g1 := (hK2.2 3 (cA, .int) rfl).2
    have g2 := (hK.1.2 0 (kk 0, .int) rfl).2
    exact Option.some.inj (g1.symm.trans g2)
  subst hcA
  exact av_born hwf X.2.2.2 rfl hP hD hS k
theorem av_newc_ok {M : av_M} (Fx : av_Fx p m c s args D kk meth M) (hA : ∀ q, s.heap.size ≤ q → A q) (hd : decode M.2.1 pc = .ok (.newarray .char, len)) (hs : av_newa 1 len pc ls st w = some (pc2, ls2, st2, w2)) (hc : cells + (w2.1 - w.1) ≤ R.cells ∧ slots + (w2.2.1 - w.2.1) ≤ R.slots)
    (k : ∀ ad2 : Nat → Nat, av_agr w.1 ad ad2 → (w2.1 = w.1 → ad2 = ad) → av_go p l e R s m args below meth c D kk A ad2 M.2.2.1 (cells + (w2.1 - w.1)) (slots + (w2.2.1 - w.2.1)) Q pc2 ls2 st2 w2) : av_go p l e R s m args below meth c D kk A ad M.2.2.1 cells slots Q pc ls st w := by
  obtain ⟨hx, hb, hml, hown, hts, hK, hnm⟩ := Fx
  unfold av_newa at hs
  split at hs
  case h_2 => cases hs
  case h_1 =>
  rename_i n rest
  split at hs
  case isFalse => cases hs
  case isTrue h0 =>
  obtain ⟨rfl, hn, hbig, hwf⟩ := h0
  cases hs
  have e1 : w.1 + 1 - w.1 = 1 := by omega
  have e2 : w.2.1 + n.toNatClampNeg - w.2.1 = n.toNatClampNeg := by omega
  simp only [e1, e2] at hc k
  have h9 : componentBytes .char ≤ 4 := by decide
  have hby : n.toNatClampNeg * componentBytes .char ≤ 536870912 := Nat.le_trans (Nat.mul_le_mul hbig h9) (Nat.le_of_ble_eq_true rfl)
  intro H locs LS X
  refine va_newa (atype := .char) (ty := .char) (a0 := (n.toNatClampNeg, .inl (fun _ => 0))) (ws := av_cW ad kk w) hx hb (hts _ (av_inA_ws av_arr_ok.2.1)) rfl hK.1 X.1 X.2.1 X.2.2.1 hA (fun cA => rfl) hn rfl hby hc.1 hc.2 hd (fun q cA H1 hK2 hP hD hS => ?_)
  have hcA : cA = kk 1 := by
    have g1 := (hK2.2 3 (cA, .char) rfl).2
    have g2 := (hK.1.2 1 (kk 1, .char) rfl).2
    exact Option.some.inj (g1.symm.trans g2)
  subst hcA
  exact av_born hwf X.2.2.2 rfl hP hD hS k
theorem av_newr_ok {M : av_M} (Fx : av_Fx p m c s args D kk meth M) (hA : ∀ q, s.heap.size ≤ q → A q) {i : Nat} (hd : decode M.2.1 pc = .ok (.anewarray i, len)) (hs : av_newr M.2.2.2.2.1 i len pc ls st w = some (pc2, ls2, st2, w2)) (hc : cells + (w2.1 - w.1) ≤ R.cells ∧ slots + (w2.2.1 - w.2.1) ≤ R.slots)
    (k : ∀ ad2 : Nat → Nat, av_agr w.1 ad ad2 → (w2.1 = w.1 → ad2 = ad) → av_go p l e R s m args below meth c D kk A ad2 M.2.2.1 (cells + (w2.1 - w.1)) (slots + (w2.2.1 - w.2.1)) Q pc2 ls2 st2 w2) : av_go p l e R s m args below meth c D kk A ad M.2.2.1 cells slots Q pc ls st w := by
  obtain ⟨hx, hb, hml, hown, hts, hK, hnm⟩ := Fx
  unfold av_newr at hs
  split at hs
  case h_2 => cases hs
  case h_1 =>
  rename_i n rest
  split at hs
  case isFalse => cases hs
  case isTrue h0 =>
  obtain ⟨⟨hcl, rfl⟩, hn, hbig, hwf⟩ := h0
  cases hs
  have e1 : w.1 + 1 - w.1 = 1 := by omega
  have e2 : w.2.1 + n.toNatClampNeg - w.2.1 = n.toNatClampNeg := by omega
  simp only [e1, e2] at hc k
  obtain ⟨g1, g2, g3, g4⟩ := av_cls_ok hcl
  intro H locs LS X
  refine va_newq (ws := av_cW ad kk w) hx hb hown (hts _ g2) (hK.2 _ av_arr_ok.2.2) hK.1 X.1 X.2.1 X.2.2.1 hA hn rfl (Nat.le_trans (Nat.mul_le_mul_right 4 hbig) (Nat.le_of_ble_eq_true rfl)) hc.1 hc.2 hd (fun q cA H1 hK2 hP hD hS => ?_)
  have hcA : cA = kk 2 := by
    obtain ⟨_, _, _, _, _, g5⟩ := (hK2.2 3 (cA, .object (av_R 0)) rfl).2
    obtain ⟨_, _, _, _, _, g6⟩ := (hK.1.2 2 (kk 2, .object (av_R 0)) rfl).2
    exact Option.some.inj (g5.symm.trans g6)
  subst hcA
  refine av_born hwf X.2.2.2 ?_ hP hD hS k
  simp [av_cE, av_cA]
theorem av_new_ok {M : av_M} (Fx : av_Fx p m c s args D kk meth M) (hA : ∀ q, s.heap.size ≤ q → A q) {i : Nat} (hd : decode M.2.1 pc = .ok (.new i, len)) (hs : av_new M.2.2.2.2.1 i len pc ls st w = some (pc2, ls2, st2, w2)) (hc : cells + (w2.1 - w.1) ≤ R.cells ∧ slots + (w2.2.1 - w.2.1) ≤ R.slots)
    (k : ∀ ad2 : Nat → Nat, av_agr w.1 ad ad2 → (w2.1 = w.1 → ad2 = ad) → av_go p l e R s m args below meth c D kk A ad2 M.2.2.1 (cells + (w2.1 - w.1)) (slots + (w2.2.1 - w.2.1)) Q pc2 ls2 st2 w2) : av_go p l e R s m args below meth c D kk A ad M.2.2.1 cells slots Q pc ls st w := by
  obtain ⟨hx, hb, hml, hown, hts, hK, hnm⟩ := Fx
  unfold av_new at hs
  split at hs
  case h_2 => cases hs
  case h_1 =>
  rename_i ci hcl
  split at hs
  case isFalse => cases hs
  case isTrue h0 =>
  obtain ⟨rfl, hwf⟩ := h0
  cases hs
  have e1 : w.1 + 1 - w.1 = 1 := by omega
  have e2 : w.2.1 + av_N ci - w.2.1 = av_N ci := by omega
  simp only [e1, e2] at hc k
  obtain ⟨g1, g2, g3, g4⟩ := av_cls_ok hcl
  intro H locs LS X
  refine va_new (ws := av_cW ad kk w) hx hb hts (av_lays ci g1) (av_ty ci) (av_tys ci g1) hown (hts _ g2) (hts _ g3) (hts _ g4) hK.1 X.1 X.2.1 X.2.2.1 hA (av_cl ci g1) (av_dfs ci g1) hc.1 hc.2 hd (fun q H1 hP hD hS => ?_)
  refine av_born hwf X.2.2.2 ?_ hP hD hS k
  simp only [av_cE]
  rw [av_dfc _ ci]
theorem av_push_sm {n : Nat} {v : Value} (hs : av_push n len pc ls v st w = some (pc2, ls2, st2, w2)) : w2.1 = w.1 ∧ w2.2.1 = w.2.1 := by
  unfold av_push at hs
  try simp only [av_push, av_ifs] at hs
  (repeat' split at hs) <;> first | (cases hs; done) | (cases hs; exact ⟨rfl, rfl⟩) | (rw [Option.map_eq_some_iff] at hs; obtain ⟨_, _, h⟩ := hs; cases h; exact ⟨rfl, rfl⟩) | (obtain ⟨_, _, h⟩ := av_tgt_ok hs; cases h; exact ⟨rfl, rfl⟩)
theorem av_ild_sm {n i : Nat} (hs : av_ild n i len pc ls st w = some (pc2, ls2, st2, w2)) : w2.1 = w.1 ∧ w2.2.1 = w.2.1 := by
  unfold av_ild at hs
  try simp only [av_push, av_ifs] at hs
  (repeat' split at hs) <;> first | (cases hs; done) | (cases hs; exact ⟨rfl, rfl⟩) | (rw [Option.map_eq_some_iff] at hs; obtain ⟨_, _, h⟩ := hs; cases h; exact ⟨rfl, rfl⟩) | (obtain ⟨_, _, h⟩ := av_tgt_ok hs; cases h; exact ⟨rfl, rfl⟩)
theorem av_lld_sm {n i : Nat} (hs : av_lld n i len pc ls st w = some (pc2, ls2, st2, w2)) : w2.1 = w.1 ∧ w2.2.1 = w.2.1 := by
  unfold av_lld at hs
  try simp only [av_push, av_ifs] at hs
  (repeat' split at hs) <;> first | (cases hs; done) | (cases hs; exact ⟨rfl, rfl⟩) | (rw [Option.map_eq_some_iff] at hs; obtain ⟨_, _, h⟩ := hs; cases h; exact ⟨rfl, rfl⟩) | (obtain ⟨_, _, h⟩ := av_tgt_ok hs; cases h; exact ⟨rfl, rfl⟩)
theorem av_ald_sm {n i : Nat} (hs : av_ald n i len pc ls st w = some (pc2, ls2, st2, w2)) : w2.1 = w.1 ∧ w2.2.1 = w.2.1 := by
  unfold av_ald at hs
  try simp only [av_push, av_ifs] at hs
  (repeat' split at hs) <;> first | (cases hs; done) | (cases hs; exact ⟨rfl, rfl⟩) | (rw [Option.map_eq_some_iff] at hs; obtain ⟨_, _, h⟩ := hs; cases h; exact ⟨rfl, rfl⟩) | (obtain ⟨_, _, h⟩ := av_tgt_ok hs; cases h; exact ⟨rfl, rfl⟩)
theorem av_ist_sm {n i : Nat} (hs : av_ist n i len pc ls st w = some (pc2, ls2, st2, w2)) : w2.1 = w.1 ∧ w2.2.1 = w.2.1 := by
  unfold av_ist at hs
  try simp only [av_push, av_ifs] at hs
  (repeat' split at hs) <;> first | (cases hs; done) | (cases hs; exact ⟨rfl, rfl⟩) | (rw [Option.map_eq_some_iff] at hs; obtain ⟨_, _, h⟩ := hs; cases h; exact ⟨rfl, rfl⟩) | (obtain ⟨_, _, h⟩ := av_tgt_ok hs; cases h; exact ⟨rfl, rfl⟩)
theorem av_ast_sm {n i : Nat} (hs : av_ast n i len pc ls st w = some (pc2, ls2, st2, w2)) : w2.1 = w.1 ∧ w2.2.1 = w.2.1 := by
  unfold av_ast at hs
  try simp only [av_push, av_ifs] at hs
  (repeat' split at hs) <;> first | (cases hs; done) | (cases hs; exact ⟨rfl, rfl⟩) | (rw [Option.map_eq_some_iff] at hs; obtain ⟨_, _, h⟩ := hs; cases h; exact ⟨rfl, rfl⟩) | (obtain ⟨_, _, h⟩ := av_tgt_ok hs; cases h; exact ⟨rfl, rfl⟩)
theorem av_iinc_sm {i : Nat} {n : Int} (hs : av_iinc i n len pc ls st w = some (pc2, ls2, st2, w2)) : w2.1 = w.1 ∧ w2.2.1 = w.2.1 := by
  unfold av_iinc at hs
  try simp only [av_push, av_ifs] at hs
  (repeat' split at hs) <;> first | (cases hs; done) | (cases hs; exact ⟨rfl, rfl⟩) | (rw [Option.map_eq_some_iff] at hs; obtain ⟨_, _, h⟩ := hs; cases h; exact ⟨rfl, rfl⟩) | (obtain ⟨_, _, h⟩ := av_tgt_ok hs; cases h; exact ⟨rfl, rfl⟩)
theorem av_bin_sm {f : Int32 → Int32 → Int32} (hs : av_bin f len pc ls st w = some (pc2, ls2, st2, w2)) : w2.1 = w.1 ∧ w2.2.1 = w.2.1 := by
  unfold av_bin at hs
  try simp only [av_push, av_ifs] at hs
  (repeat' split at hs) <;> first | (cases hs; done) | (cases hs; exact ⟨rfl, rfl⟩) | (rw [Option.map_eq_some_iff] at hs; obtain ⟨_, _, h⟩ := hs; cases h; exact ⟨rfl, rfl⟩) | (obtain ⟨_, _, h⟩ := av_tgt_ok hs; cases h; exact ⟨rfl, rfl⟩)
theorem av_div_sm {f : Int32 → Int32 → Int32} (hs : av_div f len pc ls st w = some (pc2, ls2, st2, w2)) : w2.1 = w.1 ∧ w2.2.1 = w.2.1 := by
  unfold av_div at hs
  try simp only [av_push, av_ifs] at hs
  (repeat' split at hs) <;> first | (cases hs; done) | (cases hs; exact ⟨rfl, rfl⟩) | (rw [Option.map_eq_some_iff] at hs; obtain ⟨_, _, h⟩ := hs; cases h; exact ⟨rfl, rfl⟩) | (obtain ⟨_, _, h⟩ := av_tgt_ok hs; cases h; exact ⟨rfl, rfl⟩)
theorem av_lbin_sm {f : Int64 → Int64 → Value} (hs : av_lbin f len pc ls st w = some (pc2, ls2, st2, w2)) : w2.1 = w.1 ∧ w2.2.1 = w.2.1 := by
  unfold av_lbin at hs
  try simp only [av_push, av_ifs] at hs
  (repeat' split at hs) <;> first | (cases hs; done) | (cases hs; exact ⟨rfl, rfl⟩) | (rw [Option.map_eq_some_iff] at hs; obtain ⟨_, _, h⟩ := hs; cases h; exact ⟨rfl, rfl⟩) | (obtain ⟨_, _, h⟩ := av_tgt_ok hs; cases h; exact ⟨rfl, rfl⟩)
theorem av_un_sm {f : Int32 → Value} (hs : av_un f len pc ls st w = some (pc2, ls2, st2, w2)) : w2.1 = w.1 ∧ w2.2.1 = w.2.1 := by
  unfold av_un at hs
  try simp only [av_push, av_ifs] at hs
  (repeat' split at hs) <;> first | (cases hs; done) | (cases hs; exact ⟨rfl, rfl⟩) | (rw [Option.map_eq_some_iff] at hs; obtain ⟨_, _, h⟩ := hs; cases h; exact ⟨rfl, rfl⟩) | (obtain ⟨_, _, h⟩ := av_tgt_ok hs; cases h; exact ⟨rfl, rfl⟩)
theorem av_if1_sm {cnd : Int32 → Prop} {dc : ∀ x, Decidable (cnd x)} {off : Int} (hs : av_if1 cnd off len pc ls st w = some (pc2, ls2, st2, w2)) : w2.1 = w.1 ∧ w2.2.1 = w.2.1 := by
  unfold av_if1 at hs
  try simp only [av_push, av_ifs] at hs
  (repeat' split at hs) <;> first | (cases hs; done) | (cases hs; exact ⟨rfl, rfl⟩) | (rw [Option.map_eq_some_iff] at hs; obtain ⟨_, _, h⟩ := hs; cases h; exact ⟨rfl, rfl⟩) | (obtain ⟨_, _, h⟩ := av_tgt_ok hs; cases h; exact ⟨rfl, rfl⟩)
theorem av_if2_sm {cnd : Int32 → Int32 → Prop} {dc : ∀ x y, Decidable (cnd x y)} {off : Int} (hs : av_if2 cnd off len pc ls st w = some (pc2, ls2, st2, w2)) : w2.1 = w.1 ∧ w2.2.1 = w.2.1 := by
  unfold av_if2 at hs
  try simp only [av_push, av_ifs] at hs
  (repeat' split at hs) <;> first | (cases hs; done) | (cases hs; exact ⟨rfl, rfl⟩) | (rw [Option.map_eq_some_iff] at hs; obtain ⟨_, _, h⟩ := hs; cases h; exact ⟨rfl, rfl⟩) | (obtain ⟨_, _, h⟩ := av_tgt_ok hs; cases h; exact ⟨rfl, rfl⟩)
theorem av_tab_sm {dflt lo hi : Int} {offs : Array Int} (hs : av_tab dflt lo hi offs pc ls st w = some (pc2, ls2, st2, w2)) : w2.1 = w.1 ∧ w2.2.1 = w.2.1 := by
  unfold av_tab at hs
  try simp only [av_push, av_ifs] at hs
  (repeat' split at hs) <;> first | (cases hs; done) | (cases hs; exact ⟨rfl, rfl⟩) | (rw [Option.map_eq_some_iff] at hs; obtain ⟨_, _, h⟩ := hs; cases h; exact ⟨rfl, rfl⟩) | (obtain ⟨_, _, h⟩ := av_tgt_ok hs; cases h; exact ⟨rfl, rfl⟩)
theorem av_getf_sm {own i : Nat} (hs : av_getf own i len pc ls st w = some (pc2, ls2, st2, w2)) : w2.1 = w.1 ∧ w2.2.1 = w.2.1 := by
  unfold av_getf at hs
  try simp only [av_push, av_ifs] at hs
  (repeat' split at hs) <;> first | (cases hs; done) | (cases hs; exact ⟨rfl, rfl⟩) | (rw [Option.map_eq_some_iff] at hs; obtain ⟨_, _, h⟩ := hs; cases h; exact ⟨rfl, rfl⟩) | (obtain ⟨_, _, h⟩ := av_tgt_ok hs; cases h; exact ⟨rfl, rfl⟩)
theorem av_putf_sm {own i : Nat} {b : Bool} (hs : av_putf own b i len pc ls st w = some (pc2, ls2, st2, w2)) : w2.1 = w.1 ∧ w2.2.1 = w.2.1 := by
  unfold av_putf at hs
  try simp only [av_push, av_ifs] at hs
  (repeat' split at hs) <;> first | (cases hs; done) | (cases hs; exact ⟨rfl, rfl⟩) | (rw [Option.map_eq_some_iff] at hs; obtain ⟨_, _, h⟩ := hs; cases h; exact ⟨rfl, rfl⟩) | (obtain ⟨_, _, h⟩ := av_tgt_ok hs; cases h; exact ⟨rfl, rfl⟩)
theorem av_xald_sm {t : Nat} (hs : av_xald t len pc ls st w = some (pc2, ls2, st2, w2)) : w2.1 = w.1 ∧ w2.2.1 = w.2.1 := by
  unfold av_xald at hs
  try simp only [av_push, av_ifs] at hs
  (repeat' split at hs) <;> first | (cases hs; done) | (cases hs; exact ⟨rfl, rfl⟩) | (rw [Option.map_eq_some_iff] at hs; obtain ⟨_, _, h⟩ := hs; cases h; exact ⟨rfl, rfl⟩) | (obtain ⟨_, _, h⟩ := av_tgt_ok hs; cases h; exact ⟨rfl, rfl⟩)
theorem av_xast_sm {g : Int32 → Int32} {t : Nat} (hs : av_xast g t len pc ls st w = some (pc2, ls2, st2, w2)) : w2.1 = w.1 ∧ w2.2.1 = w.2.1 := by
  unfold av_xast at hs
  try simp only [av_push, av_ifs] at hs
  (repeat' split at hs) <;> first | (cases hs; done) | (cases hs; exact ⟨rfl, rfl⟩) | (rw [Option.map_eq_some_iff] at hs; obtain ⟨_, _, h⟩ := hs; cases h; exact ⟨rfl, rfl⟩) | (obtain ⟨_, _, h⟩ := av_tgt_ok hs; cases h; exact ⟨rfl, rfl⟩)
theorem av_rald_sm  (hs : av_rald len pc ls st w = some (pc2, ls2, st2, w2)) : w2.1 = w.1 ∧ w2.2.1 = w.2.1 := by
  unfold av_rald at hs
  try simp only [av_push, av_ifs] at hs
  (repeat' split at hs) <;> first | (cases hs; done) | (cases hs; exact ⟨rfl, rfl⟩) | (rw [Option.map_eq_some_iff] at hs; obtain ⟨_, _, h⟩ := hs; cases h; exact ⟨rfl, rfl⟩) | (obtain ⟨_, _, h⟩ := av_tgt_ok hs; cases h; exact ⟨rfl, rfl⟩)
theorem av_rast_sm  (hs : av_rast len pc ls st w = some (pc2, ls2, st2, w2)) : w2.1 = w.1 ∧ w2.2.1 = w.2.1 := by
  unfold av_rast at hs
  try simp only [av_push, av_ifs] at hs
  (repeat' split at hs) <;> first | (cases hs; done) | (cases hs; exact ⟨rfl, rfl⟩) | (rw [Option.map_eq_some_iff] at hs; obtain ⟨_, _, h⟩ := hs; cases h; exact ⟨rfl, rfl⟩) | (obtain ⟨_, _, h⟩ := av_tgt_ok hs; cases h; exact ⟨rfl, rfl⟩)
theorem av_sald_sm  (hs : av_sald len pc ls st w = some (pc2, ls2, st2, w2)) : w2.1 = w.1 ∧ w2.2.1 = w.2.1 := by
  unfold av_sald at hs
  try simp only [av_push, av_ifs] at hs
  (repeat' split at hs) <;> first | (cases hs; done) | (cases hs; exact ⟨rfl, rfl⟩) | (rw [Option.map_eq_some_iff] at hs; obtain ⟨_, _, h⟩ := hs; cases h; exact ⟨rfl, rfl⟩) | (obtain ⟨_, _, h⟩ := av_tgt_ok hs; cases h; exact ⟨rfl, rfl⟩)
theorem av_slen_sm  (hs : av_slen len pc ls st w = some (pc2, ls2, st2, w2)) : w2.1 = w.1 ∧ w2.2.1 = w.2.1 := by
  unfold av_slen at hs
  try simp only [av_push, av_ifs] at hs
  (repeat' split at hs) <;> first | (cases hs; done) | (cases hs; exact ⟨rfl, rfl⟩) | (rw [Option.map_eq_some_iff] at hs; obtain ⟨_, _, h⟩ := hs; cases h; exact ⟨rfl, rfl⟩) | (obtain ⟨_, _, h⟩ := av_tgt_ok hs; cases h; exact ⟨rfl, rfl⟩)
theorem av_alen_sm  (hs : av_alen len pc ls st w = some (pc2, ls2, st2, w2)) : w2.1 = w.1 ∧ w2.2.1 = w.2.1 := by
  unfold av_alen at hs
  try simp only [av_push, av_ifs] at hs
  (repeat' split at hs) <;> first | (cases hs; done) | (cases hs; exact ⟨rfl, rfl⟩) | (rw [Option.map_eq_some_iff] at hs; obtain ⟨_, _, h⟩ := hs; cases h; exact ⟨rfl, rfl⟩) | (obtain ⟨_, _, h⟩ := av_tgt_ok hs; cases h; exact ⟨rfl, rfl⟩)
theorem av_dup_sm  (hs : av_dup len pc ls st w = some (pc2, ls2, st2, w2)) : w2.1 = w.1 ∧ w2.2.1 = w.2.1 := by
  unfold av_dup at hs
  try simp only [av_push, av_ifs] at hs
  (repeat' split at hs) <;> first | (cases hs; done) | (cases hs; exact ⟨rfl, rfl⟩) | (rw [Option.map_eq_some_iff] at hs; obtain ⟨_, _, h⟩ := hs; cases h; exact ⟨rfl, rfl⟩) | (obtain ⟨_, _, h⟩ := av_tgt_ok hs; cases h; exact ⟨rfl, rfl⟩)
theorem av_dup2_sm  (hs : av_dup2 len pc ls st w = some (pc2, ls2, st2, w2)) : w2.1 = w.1 ∧ w2.2.1 = w.2.1 := by
  unfold av_dup2 at hs
  try simp only [av_push, av_ifs] at hs
  (repeat' split at hs) <;> first | (cases hs; done) | (cases hs; exact ⟨rfl, rfl⟩) | (rw [Option.map_eq_some_iff] at hs; obtain ⟨_, _, h⟩ := hs; cases h; exact ⟨rfl, rfl⟩) | (obtain ⟨_, _, h⟩ := av_tgt_ok hs; cases h; exact ⟨rfl, rfl⟩)
theorem av_pop_sm  (hs : av_pop len pc ls st w = some (pc2, ls2, st2, w2)) : w2.1 = w.1 ∧ w2.2.1 = w.2.1 := by
  unfold av_pop at hs
  try simp only [av_push, av_ifs] at hs
  (repeat' split at hs) <;> first | (cases hs; done) | (cases hs; exact ⟨rfl, rfl⟩) | (rw [Option.map_eq_some_iff] at hs; obtain ⟨_, _, h⟩ := hs; cases h; exact ⟨rfl, rfl⟩) | (obtain ⟨_, _, h⟩ := av_tgt_ok hs; cases h; exact ⟨rfl, rfl⟩)
theorem av_ifn_sm  (hs : av_ifn len pc ls st w = some (pc2, ls2, st2, w2)) : w2.1 = w.1 ∧ w2.2.1 = w.2.1 := by
  unfold av_ifn at hs
  try simp only [av_push, av_ifs] at hs
  (repeat' split at hs) <;> first | (cases hs; done) | (cases hs; exact ⟨rfl, rfl⟩) | (rw [Option.map_eq_some_iff] at hs; obtain ⟨_, _, h⟩ := hs; cases h; exact ⟨rfl, rfl⟩) | (obtain ⟨_, _, h⟩ := av_tgt_ok hs; cases h; exact ⟨rfl, rfl⟩)
theorem av_ldc_sm {own i : Nat} (hs : av_ldc own i len pc ls st w = some (pc2, ls2, st2, w2)) : w2.1 = w.1 ∧ w2.2.1 = w.2.1 := by
  unfold av_ldc at hs
  try simp only [av_push, av_ifs] at hs
  (repeat' split at hs) <;> first | (cases hs; done) | (cases hs; exact ⟨rfl, rfl⟩) | (rw [Option.map_eq_some_iff] at hs; obtain ⟨_, _, h⟩ := hs; cases h; exact ⟨rfl, rfl⟩) | (obtain ⟨_, _, h⟩ := av_tgt_ok hs; cases h; exact ⟨rfl, rfl⟩)
theorem av_ldl_sm {own i : Nat} (hs : av_ldl own i len pc ls st w = some (pc2, ls2, st2, w2)) : w2.1 = w.1 ∧ w2.2.1 = w.2.1 := by
  unfold av_ldl at hs
  try simp only [av_push, av_ifs] at hs
  (repeat' split at hs) <;> first | (cases hs; done) | (cases hs; exact ⟨rfl, rfl⟩) | (rw [Option.map_eq_some_iff] at hs; obtain ⟨_, _, h⟩ := hs; cases h; exact ⟨rfl, rfl⟩) | (obtain ⟨_, _, h⟩ := av_tgt_ok hs; cases h; exact ⟨rfl, rfl⟩)
theorem av_obj_sm {own i h : Nat} (hs : av_obj own i h len pc ls st w = some (pc2, ls2, st2, w2)) : w2.1 = w.1 ∧ w2.2.1 = w.2.1 := by
  unfold av_obj at hs
  try simp only [av_push, av_ifs] at hs
  (repeat' split at hs) <;> first | (cases hs; done) | (cases hs; exact ⟨rfl, rfl⟩) | (rw [Option.map_eq_some_iff] at hs; obtain ⟨_, _, h⟩ := hs; cases h; exact ⟨rfl, rfl⟩) | (obtain ⟨_, _, h⟩ := av_tgt_ok hs; cases h; exact ⟨rfl, rfl⟩)
theorem av_mmx_sm {own i h : Nat} (hs : av_mmx own i h len pc ls st w = some (pc2, ls2, st2, w2)) : w2.1 = w.1 ∧ w2.2.1 = w.2.1 := by
  unfold av_mmx at hs
  try simp only [av_push, av_ifs] at hs
  (repeat' split at hs) <;> first | (cases hs; done) | (cases hs; exact ⟨rfl, rfl⟩) | (rw [Option.map_eq_some_iff] at hs; obtain ⟨_, _, h⟩ := hs; cases h; exact ⟨rfl, rfl⟩) | (obtain ⟨_, _, h⟩ := av_tgt_ok hs; cases h; exact ⟨rfl, rfl⟩)
theorem av_newa_mo {t : Nat} (hs : av_newa t len pc ls st w = some (pc2, ls2, st2, w2)) : w.1 ≤ w2.1 ∧ w.2.1 ≤ w2.2.1 := by
  unfold av_newa at hs
  (repeat' split at hs) <;> first | (cases hs; done) | (cases hs; exact ⟨Nat.le_succ _, Nat.le_add_right _ _⟩)
theorem av_newr_mo {own i : Nat} (hs : av_newr own i len pc ls st w = some (pc2, ls2, st2, w2)) : w.1 ≤ w2.1 ∧ w.2.1 ≤ w2.2.1 := by
  unfold av_newr at hs
  (repeat' split at hs) <;> first | (cases hs; done) | (cases hs; exact ⟨Nat.le_succ _, Nat.le_add_right _ _⟩)
theorem av_new_mo {own i : Nat} (hs : av_new own i len pc ls st w = some (pc2, ls2, st2, w2)) : w.1 ≤ w2.1 ∧ w.2.1 ≤ w2.2.1 := by
  unfold av_new at hs
  (repeat' split at hs) <;> first | (cases hs; done) | (cases hs; exact ⟨Nat.le_succ _, Nat.le_add_right _ _⟩)
set_option maxHeartbeats 4000000 in
theorem av_step_mo {M : av_M} {i : Instr} (hs : av_step M i len pc ls st w = some (pc2, ls2, st2, w2)) : w.1 ≤ w2.1 ∧ w.2.1 ≤ w2.2.1 := by
  have hsm : w2.1 = w.1 ∧ w2.2.1 = w.2.1 → w.1 ≤ w2.1 ∧ w.2.1 ≤ w2.2.1 := fun h => ⟨Nat.le_of_eq h.1.symm, Nat.le_of_eq h.2.symm⟩
  unfold av_step at hs
  split at hs
  · exact hsm (av_ald_sm hs)
  · exact hsm (av_ild_sm hs)
  · exact hsm (av_ild_sm hs)
  · exact hsm (av_lld_sm hs)
  · exact hsm (av_lld_sm hs)
  · exact hsm (av_ist_sm hs)
  · exact hsm (av_ist_sm hs)
  · exact hsm (av_ast_sm hs)
  · exact hsm (av_iinc_sm hs)
  · exact hsm (av_push_sm hs)
  · exact hsm (av_push_sm hs)
  · exact hsm (av_push_sm hs)
  · exact hsm (av_push_sm hs)
  · exact hsm (av_ldc_sm hs)
  · exact hsm (av_ldl_sm hs)
  · exact hsm (av_bin_sm hs)
  · exact hsm (av_bin_sm hs)
  · exact hsm (av_bin_sm hs)
  · exact hsm (av_bin_sm hs)
  · exact hsm (av_bin_sm hs)
  · exact hsm (av_bin_sm hs)
  · exact hsm (av_bin_sm hs)
  · exact hsm (av_bin_sm hs)
  · exact hsm (av_div_sm hs)
  · exact hsm (av_div_sm hs)
  · exact hsm (av_un_sm hs)
  · exact hsm (av_un_sm hs)
  · exact hsm (av_un_sm hs)
  · exact hsm (av_lbin_sm hs)
  · exact hsm (av_lbin_sm hs)
  · exact hsm (av_lbin_sm hs)
  · exact hsm (av_if1_sm hs)
  · exact hsm (av_if1_sm hs)
  · exact hsm (av_if1_sm hs)
  · exact hsm (av_if1_sm hs)
  · exact hsm (av_if1_sm hs)
  · exact hsm (av_if1_sm hs)
  · exact hsm (av_if2_sm hs)
  · exact hsm (av_if2_sm hs)
  · exact hsm (av_if2_sm hs)
  · exact hsm (av_if2_sm hs)
  · exact hsm (av_if2_sm hs)
  · exact hsm (av_if2_sm hs)
  · split at hs
    · obtain ⟨_, _, h⟩ := av_tgt_ok hs
      cases h
      exact ⟨Nat.le_refl _, Nat.le_refl _⟩
    · cases hs
  · exact hsm (av_tab_sm hs)
  · exact hsm (av_getf_sm hs)
  · exact hsm (av_putf_sm hs)
  · split at hs
    · exact hsm (av_sald_sm hs)
    · exact hsm (av_xald_sm hs)
  · exact hsm (av_xald_sm hs)
  · exact hsm (av_xast_sm hs)
  · exact hsm (av_xast_sm hs)
  · exact hsm (av_rald_sm hs)
  · exact hsm (av_rast_sm hs)
  · split at hs
    · exact hsm (av_slen_sm hs)
    · exact hsm (av_alen_sm hs)
  · exact av_newa_mo hs
  · exact av_newa_mo hs
  · exact av_newr_mo hs
  · exact av_new_mo hs
  · exact hsm (av_dup_sm hs)
  · exact hsm (av_dup2_sm hs)
  · exact hsm (av_pop_sm hs)
  · exact hsm (av_ifn_sm hs)
  · exact hsm (av_obj_sm hs)
  · exact hsm (av_mmx_sm hs)
  · cases hs
set_option maxHeartbeats 4000000 in
theorem av_step_ok {M : av_M} (Fx : av_Fx p m c s args D kk meth M) (hX : av_SX s A ad w M) (hA : ∀ q, s.heap.size ≤ q → A q) (hR : M.2.2.2.2.2.1 ≤ R.frames ∧ 35 * M.2.2.2.2.2.1 ≤ R.locals) {i : Instr} (hd : decode M.2.1 pc = .ok (i, len)) (hs : av_step M i len pc ls st w = some (pc2, ls2, st2, w2)) (hc : cells + (w2.1 - w.1) ≤ R.cells ∧ slots + (w2.2.1 - w.2.1) ≤ R.slots)
    (k : ∀ ad2 : Nat → Nat, av_agr w.1 ad ad2 → (w2.1 = w.1 → ad2 = ad) → av_go p l e R s m args below meth c D kk A ad2 M.2.2.1 (cells + (w2.1 - w.1)) (slots + (w2.2.1 - w.2.1)) Q pc2 ls2 st2 w2) : av_go p l e R s m args below meth c D kk A ad M.2.2.1 cells slots Q pc ls st w := by
  have hk : w2.1 = w.1 ∧ w2.2.1 = w.2.1 → av_go p l e R s m args below meth c D kk A ad M.2.2.1 cells slots Q pc2 ls2 st2 w2 := fun h => by
    have k1 := k ad (fun _ _ => rfl) (fun _ => rfl)
    have e1 : cells + (w2.1 - w.1) = cells := by omega
    have e2 : slots + (w2.2.1 - w.2.1) = slots := by omega
    rw [e1, e2] at k1
    exact k1
  unfold av_step at hs
  split at hs
  · exact av_ald_ok (fun hl H locs LS rest x h k => lv_aload_n Fx.1 Fx.2.1 (hl ▸ hd) rfl h k) hs (hk (av_ald_sm hs))
  · exact av_ild_ok (fun hl H locs LS rest x h k => lv_iload_n Fx.1 Fx.2.1 (hl ▸ hd) rfl h k) hs (hk (av_ild_sm hs))
  · exact av_ild_ok (fun hl H locs LS rest x h k => lv_iload Fx.1 Fx.2.1 (hl ▸ hd) h k) hs (hk (av_ild_sm hs))
  · exact av_lld_ok (fun hl H locs LS rest x h k => lv_lload_n Fx.1 Fx.2.1 (hl ▸ hd) rfl h k) hs (hk (av_lld_sm hs))
  · exact av_lld_ok (fun hl H locs LS rest x h k => lv_lload Fx.1 Fx.2.1 (hl ▸ hd) h k) hs (hk (av_lld_sm hs))
  · exact av_ist_ok (fun hl H locs LS rest x hi h k => lv_istore_n Fx.1 Fx.2.1 (hl ▸ hd) rfl h hi rfl k) hs (hk (av_ist_sm hs))
  · exact av_ist_ok (fun hl H locs LS rest x hi h k => lv_istore Fx.1 Fx.2.1 (hl ▸ hd) h hi rfl k) hs (hk (av_ist_sm hs))
  · exact av_ast_ok (fun hl H locs LS rest x hi h k => lv_astore_n Fx.1 Fx.2.1 (hl ▸ hd) rfl h hi rfl k) hs (hk (av_ast_sm hs))
  · exact av_iinc_ok Fx.1 Fx.2.1 hd hs (hk (av_iinc_sm hs))
  · exact av_push_ok (fun hl H locs LS rest X k => lv_iconst Fx.1 Fx.2.1 (hl ▸ hd) rfl k) hs (hk (av_push_sm hs))
  · exact av_push_ok (fun hl H locs LS rest X k => lv_bipush Fx.1 Fx.2.1 (hl ▸ hd) rfl k) hs (hk (av_push_sm hs))
  · exact av_push_ok (fun hl H locs LS rest X k => lv_sipush Fx.1 Fx.2.1 (hl ▸ hd) rfl k) hs (hk (av_push_sm hs))
  · exact av_push_ok (fun hl H locs LS rest X k => lv_lconst Fx.1 Fx.2.1 (hl ▸ hd) rfl k) hs (hk (av_push_sm hs))
  · exact av_ldc_ok Fx hd hs (hk (av_ldc_sm hs))
  · exact av_ldl_ok Fx hd hs (hk (av_ldl_sm hs))
  · exact av_bin_ok (fun hl H locs LS rest x y k => lv_iadd Fx.1 Fx.2.1 (hl ▸ hd) k) hs (hk (av_bin_sm hs))
  · exact av_bin_ok (fun hl H locs LS rest x y k => lv_isub Fx.1 Fx.2.1 (hl ▸ hd) k) hs (hk (av_bin_sm hs))
  · exact av_bin_ok (fun hl H locs LS rest x y k => lv_imul Fx.1 Fx.2.1 (hl ▸ hd) k) hs (hk (av_bin_sm hs))
  · exact av_bin_ok (fun hl H locs LS rest x y k => lv_iand Fx.1 Fx.2.1 (hl ▸ hd) k) hs (hk (av_bin_sm hs))
  · exact av_bin_ok (fun hl H locs LS rest x y k => lv_ior Fx.1 Fx.2.1 (hl ▸ hd) k) hs (hk (av_bin_sm hs))
  · exact av_bin_ok (fun hl H locs LS rest x y k => lv_ixor Fx.1 Fx.2.1 (hl ▸ hd) k) hs (hk (av_bin_sm hs))
  · exact av_bin_ok (fun hl H locs LS rest x y k => lv_ishl Fx.1 Fx.2.1 (hl ▸ hd) k) hs (hk (av_bin_sm hs))
  · exact av_bin_ok (fun hl H locs LS rest x y k => lv_ishr Fx.1 Fx.2.1 (hl ▸ hd) k) hs (hk (av_bin_sm hs))
  · exact av_div_ok (fun hl H locs LS rest x y hy k => lv_idiv Fx.1 Fx.2.1 (hl ▸ hd) hy k) hs (hk (av_div_sm hs))
  · exact av_div_ok (fun hl H locs LS rest x y hy k => lv_irem Fx.1 Fx.2.1 (hl ▸ hd) hy k) hs (hk (av_div_sm hs))
  · exact av_un_ok (f := fun x => .int (-x)) (fun hl H locs LS rest x k => lv_ineg Fx.1 Fx.2.1 (hl ▸ hd) k) hs (hk (av_un_sm hs))
  · exact av_un_ok (f := fun x => .long x.toInt64) (fun hl H locs LS rest x k => lv_i2l Fx.1 Fx.2.1 (hl ▸ hd) rfl k) hs (hk (av_un_sm hs))
  · exact av_un_ok (f := fun x => .int (x.toUInt32 % 65536).toInt32) (fun hl H locs LS rest x k => lv_i2c Fx.1 Fx.2.1 (hl ▸ hd) rfl k) hs (hk (av_un_sm hs))
  · exact av_lbin_ok (f := fun x y => .long (x - y)) (fun hl H locs LS rest x y k => lv_lsub Fx.1 Fx.2.1 (hl ▸ hd) k) hs (hk (av_lbin_sm hs))
  · exact av_lbin_ok (f := fun x y => .long (x * y)) (fun hl H locs LS rest x y k => lv_lmul Fx.1 Fx.2.1 (hl ▸ hd) k) hs (hk (av_lbin_sm hs))
  · exact av_lbin_ok (f := fun x y => .int (lg_cmp x y)) (fun hl H locs LS rest x y k => W.lcmp Fx.1 Fx.2.1 (hl ▸ hd) k) hs (hk (av_lbin_sm hs))
  · exact av_if1_ok (fun hl H locs LS rest x tgt ht kt kf => lv_if_eq Fx.1 Fx.2.1 (hl ▸ hd) ht kt kf) hs (hk (av_if1_sm hs))
  · exact av_if1_ok (fun hl H locs LS rest x tgt ht kt kf => lv_if_ne Fx.1 Fx.2.1 (hl ▸ hd) ht kt (fun z => kf (not_not_intro z))) hs (hk (av_if1_sm hs))
  · exact av_if1_ok (fun hl H locs LS rest x tgt ht kt kf => lv_if_lt Fx.1 Fx.2.1 (hl ▸ hd) ht kt kf) hs (hk (av_if1_sm hs))
  · exact av_if1_ok (fun hl H locs LS rest x tgt ht kt kf => lv_if_ge Fx.1 Fx.2.1 (hl ▸ hd) ht kt kf) hs (hk (av_if1_sm hs))
  · exact av_if1_ok (fun hl H locs LS rest x tgt ht kt kf => lv_if_gt Fx.1 Fx.2.1 (hl ▸ hd) ht kt kf) hs (hk (av_if1_sm hs))
  · exact av_if1_ok (fun hl H locs LS rest x tgt ht kt kf => lv_if_le Fx.1 Fx.2.1 (hl ▸ hd) ht kt kf) hs (hk (av_if1_sm hs))
  · exact av_if2_ok (fun hl H locs LS rest x y tgt ht kt kf => lv_icmp_eq Fx.1 Fx.2.1 (hl ▸ hd) ht kt kf) hs (hk (av_if2_sm hs))
  · exact av_if2_ok (fun hl H locs LS rest x y tgt ht kt kf => lv_icmp_ne Fx.1 Fx.2.1 (hl ▸ hd) ht kt (fun z => kf (not_not_intro z))) hs (hk (av_if2_sm hs))
  · exact av_if2_ok (fun hl H locs LS rest x y tgt ht kt kf => lv_icmp_lt Fx.1 Fx.2.1 (hl ▸ hd) ht kt kf) hs (hk (av_if2_sm hs))
  · exact av_if2_ok (fun hl H locs LS rest x y tgt ht kt kf => lv_icmp_ge Fx.1 Fx.2.1 (hl ▸ hd) ht kt kf) hs (hk (av_if2_sm hs))
  · exact av_if2_ok (fun hl H locs LS rest x y tgt ht kt kf => lv_icmp_gt Fx.1 Fx.2.1 (hl ▸ hd) ht kt kf) hs (hk (av_if2_sm hs))
  · exact av_if2_ok (fun hl H locs LS rest x y tgt ht kt kf => lv_icmp_le Fx.1 Fx.2.1 (hl ▸ hd) ht kt kf) hs (hk (av_if2_sm hs))
  · split at hs
    · rename_i hl
      subst hl
      obtain ⟨tgt, ht, h⟩ := av_tgt_ok hs
      cases h
      intro H locs LS X
      exact lv_goto Fx.1 Fx.2.1 hd ht (hk ⟨rfl, rfl⟩ H locs LS X)
    · cases hs
  · exact av_tab_ok Fx.1 Fx.2.1 hd hs (hk (av_tab_sm hs))
  · exact av_getf_ok Fx hd hs (hk (av_getf_sm hs))
  · exact av_putf_ok Fx hd hs (hk (av_putf_sm hs))
  · split at hs
    · rename_i h99
      exact av_sald_ok Fx hX h99 hd hs (hk (av_sald_sm hs))
    · exact av_iald_ok Fx hd hs (hk (av_xald_sm hs))
  · exact av_cald_ok Fx hd hs (hk (av_xald_sm hs))
  · exact av_iast_ok Fx hd hs (hk (av_xast_sm hs))
  · exact av_cast_ok Fx hd hs (hk (av_xast_sm hs))
  · exact av_rald_ok Fx hd hs (hk (av_rald_sm hs))
  · exact av_rast_ok Fx hd hs (hk (av_rast_sm hs))
  · split at hs
    · rename_i h99
      exact av_slen_ok Fx hX h99 hd hs (hk (av_slen_sm hs))
    · exact av_alen_ok Fx hd hs (hk (av_alen_sm hs))
  · exact av_newi_ok Fx hA hd hs hc k
  · exact av_newc_ok Fx hA hd hs hc k
  · exact av_newr_ok Fx hA hd hs hc k
  · exact av_new_ok Fx hA hd hs hc k
  · exact av_dup_ok Fx hd hs (hk (av_dup_sm hs))
  · exact av_dup2_ok Fx hd hs (hk (av_dup2_sm hs))
  · exact av_pop_ok Fx hd hs (hk (av_pop_sm hs))
  · exact av_ifn_ok Fx hd hs (hk (av_ifn_sm hs))
  · exact av_obj_ok2 Fx hR hd hs (hk (av_obj_sm hs))
  · exact av_mmx_ok Fx ⟨Nat.le_trans (Nat.le_add_right _ _) hc.1, Nat.le_trans (Nat.le_add_right _ _) hc.2⟩ hR hd hs (hk (av_mmx_sm hs))
  · cases hs
theorem av_up_scr {g : Nat → av_E} {k n : Nat} {e : av_E} (hk : k < n) (hn : n ≤ 1000) : av_up g k e av_scr = g av_scr := if_neg (by unfold av_scr; omega)
theorem av_push_sw {n : Nat} {v : Value} (hs : av_push n len pc ls v st w = some (pc2, ls2, st2, w2)) : w2 = w := by
  unfold av_push at hs
  try simp only [av_push, av_ifs] at hs
  (repeat' split at hs) <;> first | (cases hs; done) | (cases hs; rfl) | (rw [Option.map_eq_some_iff] at hs; obtain ⟨_, _, h⟩ := hs; cases h; rfl) | (obtain ⟨_, _, h⟩ := av_tgt_ok hs; cases h; rfl)
theorem av_ild_sw {n i : Nat} (hs : av_ild n i len pc ls st w = some (pc2, ls2, st2, w2)) : w2 = w := by
  unfold av_ild at hs
  try simp only [av_push, av_ifs] at hs
  (repeat' split at hs) <;> first | (cases hs; done) | (cases hs; rfl) | (rw [Option.map_eq_some_iff] at hs; obtain ⟨_, _, h⟩ := hs; cases h; rfl) | (obtain ⟨_, _, h⟩ := av_tgt_ok hs; cases h; rfl)
theorem av_lld_sw {n i : Nat} (hs : av_lld n i len pc ls st w = some (pc2, ls2, st2, w2)) : w2 = w := by
  unfold av_lld at hs
  try simp only [av_push, av_ifs] at hs
  (repeat' split at hs) <;> first | (cases hs; done) | (cases hs; rfl) | (rw [Option.map_eq_some_iff] at hs; obtain ⟨_, _, h⟩ := hs; cases h; rfl) | (obtain ⟨_, _, h⟩ := av_tgt_ok hs; cases h; rfl)
theorem av_ald_sw {n i : Nat} (hs : av_ald n i len pc ls st w = some (pc2, ls2, st2, w2)) : w2 = w := by
  unfold av_ald at hs
  try simp only [av_push, av_ifs] at hs
  (repeat' split at hs) <;> first | (cases hs; done) | (cases hs; rfl) | (rw [Option.map_eq_some_iff] at hs; obtain ⟨_, _, h⟩ := hs; cases h; rfl) | (obtain ⟨_, _, h⟩ := av_tgt_ok hs; cases h; rfl)
theorem av_ist_sw {n i : Nat} (hs : av_ist n i len pc ls st w = some (pc2, ls2, st2, w2)) : w2 = w := by
  unfold av_ist at hs
  try simp only [av_push, av_ifs] at hs
  (repeat' split at hs) <;> first | (cases hs; done) | (cases hs; rfl) | (rw [Option.map_eq_some_iff] at hs; obtain ⟨_, _, h⟩ := hs; cases h; rfl) | (obtain ⟨_, _, h⟩ := av_tgt_ok hs; cases h; rfl)
theorem av_ast_sw {n i : Nat} (hs : av_ast n i len pc ls st w = some (pc2, ls2, st2, w2)) : w2 = w := by
  unfold av_ast at hs
  try simp only [av_push, av_ifs] at hs
  (repeat' split at hs) <;> first | (cases hs; done) | (cases hs; rfl) | (rw [Option.map_eq_some_iff] at hs; obtain ⟨_, _, h⟩ := hs; cases h; rfl) | (obtain ⟨_, _, h⟩ := av_tgt_ok hs; cases h; rfl)
theorem av_iinc_sw {i : Nat} {n : Int} (hs : av_iinc i n len pc ls st w = some (pc2, ls2, st2, w2)) : w2 = w := by
  unfold av_iinc at hs
  try simp only [av_push, av_ifs] at hs
  (repeat' split at hs) <;> first | (cases hs; done) | (cases hs; rfl) | (rw [Option.map_eq_some_iff] at hs; obtain ⟨_, _, h⟩ := hs; cases h; rfl) | (obtain ⟨_, _, h⟩ := av_tgt_ok hs; cases h; rfl)
theorem av_bin_sw {f : Int32 → Int32 → Int32} (hs : av_bin f len pc ls st w = some (pc2, ls2, st2, w2)) : w2 = w := by
  unfold av_bin at hs
  try simp only [av_push, av_ifs] at hs
  (repeat' split at hs) <;> first | (cases hs; done) | (cases hs; rfl) | (rw [Option.map_eq_some_iff] at hs; obtain ⟨_, _, h⟩ := hs; cases h; rfl) | (obtain ⟨_, _, h⟩ := av_tgt_ok hs; cases h; rfl)
theorem av_div_sw {f : Int32 → Int32 → Int32} (hs : av_div f len pc ls st w = some (pc2, ls2, st2, w2)) : w2 = w := by
  unfold av_div at hs
  try simp only [av_push, av_ifs] at hs
  (repeat' split at hs) <;> first | (cases hs; done) | (cases hs; rfl) | (rw [Option.map_eq_some_iff] at hs; obtain ⟨_, _, h⟩ := hs; cases h; rfl) | (obtain ⟨_, _, h⟩ := av_tgt_ok hs; cases h; rfl)
theorem av_lbin_sw {f : Int64 → Int64 → Value} (hs : av_lbin f len pc ls st w = some (pc2, ls2, st2, w2)) : w2 = w := by
  unfold av_lbin at hs
  try simp only [av_push, av_ifs] at hs
  (repeat' split at hs) <;> first | (cases hs; done) | (cases hs; rfl) | (rw [Option.map_eq_some_iff] at hs; obtain ⟨_, _, h⟩ := hs; cases h; rfl) | (obtain ⟨_, _, h⟩ := av_tgt_ok hs; cases h; rfl)
theorem av_un_sw {f : Int32 → Value} (hs : av_un f len pc ls st w = some (pc2, ls2, st2, w2)) : w2 = w := by
  unfold av_un at hs
  try simp only [av_push, av_ifs] at hs
  (repeat' split at hs) <;> first | (cases hs; done) | (cases hs; rfl) | (rw [Option.map_eq_some_iff] at hs; obtain ⟨_, _, h⟩ := hs; cases h; rfl) | (obtain ⟨_, _, h⟩ := av_tgt_ok hs; cases h; rfl)
theorem av_if1_sw {cnd : Int32 → Prop} {dc : ∀ x, Decidable (cnd x)} {off : Int} (hs : av_if1 cnd off len pc ls st w = some (pc2, ls2, st2, w2)) : w2 = w := by
  unfold av_if1 at hs
  try simp only [av_push, av_ifs] at hs
  (repeat' split at hs) <;> first | (cases hs; done) | (cases hs; rfl) | (rw [Option.map_eq_some_iff] at hs; obtain ⟨_, _, h⟩ := hs; cases h; rfl) | (obtain ⟨_, _, h⟩ := av_tgt_ok hs; cases h; rfl)
theorem av_if2_sw {cnd : Int32 → Int32 → Prop} {dc : ∀ x y, Decidable (cnd x y)} {off : Int} (hs : av_if2 cnd off len pc ls st w = some (pc2, ls2, st2, w2)) : w2 = w := by
  unfold av_if2 at hs
  try simp only [av_push, av_ifs] at hs
  (repeat' split at hs) <;> first | (cases hs; done) | (cases hs; rfl) | (rw [Option.map_eq_some_iff] at hs; obtain ⟨_, _, h⟩ := hs; cases h; rfl) | (obtain ⟨_, _, h⟩ := av_tgt_ok hs; cases h; rfl)
theorem av_tab_sw {dflt lo hi : Int} {offs : Array Int} (hs : av_tab dflt lo hi offs pc ls st w = some (pc2, ls2, st2, w2)) : w2 = w := by
  unfold av_tab at hs
  try simp only [av_push, av_ifs] at hs
  (repeat' split at hs) <;> first | (cases hs; done) | (cases hs; rfl) | (rw [Option.map_eq_some_iff] at hs; obtain ⟨_, _, h⟩ := hs; cases h; rfl) | (obtain ⟨_, _, h⟩ := av_tgt_ok hs; cases h; rfl)
theorem av_getf_sw {own i : Nat} (hs : av_getf own i len pc ls st w = some (pc2, ls2, st2, w2)) : w2 = w := by
  unfold av_getf at hs
  try simp only [av_push, av_ifs] at hs
  (repeat' split at hs) <;> first | (cases hs; done) | (cases hs; rfl) | (rw [Option.map_eq_some_iff] at hs; obtain ⟨_, _, h⟩ := hs; cases h; rfl) | (obtain ⟨_, _, h⟩ := av_tgt_ok hs; cases h; rfl)
theorem av_xald_sw {t : Nat} (hs : av_xald t len pc ls st w = some (pc2, ls2, st2, w2)) : w2 = w := by
  unfold av_xald at hs
  try simp only [av_push, av_ifs] at hs
  (repeat' split at hs) <;> first | (cases hs; done) | (cases hs; rfl) | (rw [Option.map_eq_some_iff] at hs; obtain ⟨_, _, h⟩ := hs; cases h; rfl) | (obtain ⟨_, _, h⟩ := av_tgt_ok hs; cases h; rfl)
theorem av_rald_sw  (hs : av_rald len pc ls st w = some (pc2, ls2, st2, w2)) : w2 = w := by
  unfold av_rald at hs
  try simp only [av_push, av_ifs] at hs
  (repeat' split at hs) <;> first | (cases hs; done) | (cases hs; rfl) | (rw [Option.map_eq_some_iff] at hs; obtain ⟨_, _, h⟩ := hs; cases h; rfl) | (obtain ⟨_, _, h⟩ := av_tgt_ok hs; cases h; rfl)
theorem av_sald_sw  (hs : av_sald len pc ls st w = some (pc2, ls2, st2, w2)) : w2 = w := by
  unfold av_sald at hs
  try simp only [av_push, av_ifs] at hs
  (repeat' split at hs) <;> first | (cases hs; done) | (cases hs; rfl) | (rw [Option.map_eq_some_iff] at hs; obtain ⟨_, _, h⟩ := hs; cases h; rfl) | (obtain ⟨_, _, h⟩ := av_tgt_ok hs; cases h; rfl)
theorem av_slen_sw  (hs : av_slen len pc ls st w = some (pc2, ls2, st2, w2)) : w2 = w := by
  unfold av_slen at hs
  try simp only [av_push, av_ifs] at hs
  (repeat' split at hs) <;> first | (cases hs; done) | (cases hs; rfl) | (rw [Option.map_eq_some_iff] at hs; obtain ⟨_, _, h⟩ := hs; cases h; rfl) | (obtain ⟨_, _, h⟩ := av_tgt_ok hs; cases h; rfl)
theorem av_alen_sw  (hs : av_alen len pc ls st w = some (pc2, ls2, st2, w2)) : w2 = w := by
  unfold av_alen at hs
  try simp only [av_push, av_ifs] at hs
  (repeat' split at hs) <;> first | (cases hs; done) | (cases hs; rfl) | (rw [Option.map_eq_some_iff] at hs; obtain ⟨_, _, h⟩ := hs; cases h; rfl) | (obtain ⟨_, _, h⟩ := av_tgt_ok hs; cases h; rfl)
theorem av_dup_sw  (hs : av_dup len pc ls st w = some (pc2, ls2, st2, w2)) : w2 = w := by
  unfold av_dup at hs
  try simp only [av_push, av_ifs] at hs
  (repeat' split at hs) <;> first | (cases hs; done) | (cases hs; rfl) | (rw [Option.map_eq_some_iff] at hs; obtain ⟨_, _, h⟩ := hs; cases h; rfl) | (obtain ⟨_, _, h⟩ := av_tgt_ok hs; cases h; rfl)
theorem av_dup2_sw  (hs : av_dup2 len pc ls st w = some (pc2, ls2, st2, w2)) : w2 = w := by
  unfold av_dup2 at hs
  try simp only [av_push, av_ifs] at hs
  (repeat' split at hs) <;> first | (cases hs; done) | (cases hs; rfl) | (rw [Option.map_eq_some_iff] at hs; obtain ⟨_, _, h⟩ := hs; cases h; rfl) | (obtain ⟨_, _, h⟩ := av_tgt_ok hs; cases h; rfl)
theorem av_pop_sw  (hs : av_pop len pc ls st w = some (pc2, ls2, st2, w2)) : w2 = w := by
  unfold av_pop at hs
  try simp only [av_push, av_ifs] at hs
  (repeat' split at hs) <;> first | (cases hs; done) | (cases hs; rfl) | (rw [Option.map_eq_some_iff] at hs; obtain ⟨_, _, h⟩ := hs; cases h; rfl) | (obtain ⟨_, _, h⟩ := av_tgt_ok hs; cases h; rfl)
theorem av_ifn_sw  (hs : av_ifn len pc ls st w = some (pc2, ls2, st2, w2)) : w2 = w := by
  unfold av_ifn at hs
  try simp only [av_push, av_ifs] at hs
  (repeat' split at hs) <;> first | (cases hs; done) | (cases hs; rfl) | (rw [Option.map_eq_some_iff] at hs; obtain ⟨_, _, h⟩ := hs; cases h; rfl) | (obtain ⟨_, _, h⟩ := av_tgt_ok hs; cases h; rfl)
theorem av_ldc_sw {own i : Nat} (hs : av_ldc own i len pc ls st w = some (pc2, ls2, st2, w2)) : w2 = w := by
  unfold av_ldc at hs
  try simp only [av_push, av_ifs] at hs
  (repeat' split at hs) <;> first | (cases hs; done) | (cases hs; rfl) | (rw [Option.map_eq_some_iff] at hs; obtain ⟨_, _, h⟩ := hs; cases h; rfl) | (obtain ⟨_, _, h⟩ := av_tgt_ok hs; cases h; rfl)
theorem av_ldl_sw {own i : Nat} (hs : av_ldl own i len pc ls st w = some (pc2, ls2, st2, w2)) : w2 = w := by
  unfold av_ldl at hs
  try simp only [av_push, av_ifs] at hs
  (repeat' split at hs) <;> first | (cases hs; done) | (cases hs; rfl) | (rw [Option.map_eq_some_iff] at hs; obtain ⟨_, _, h⟩ := hs; cases h; rfl) | (obtain ⟨_, _, h⟩ := av_tgt_ok hs; cases h; rfl)
theorem av_obj_sw {own i h : Nat} (hs : av_obj own i h len pc ls st w = some (pc2, ls2, st2, w2)) : w2 = w := by
  unfold av_obj at hs
  try simp only [av_push, av_ifs] at hs
  (repeat' split at hs) <;> first | (cases hs; done) | (cases hs; rfl) | (rw [Option.map_eq_some_iff] at hs; obtain ⟨_, _, h⟩ := hs; cases h; rfl) | (obtain ⟨_, _, h⟩ := av_tgt_ok hs; cases h; rfl)
theorem av_mmx_sw {own i h : Nat} (hs : av_mmx own i h len pc ls st w = some (pc2, ls2, st2, w2)) : w2 = w := by
  unfold av_mmx at hs
  try simp only [av_push, av_ifs] at hs
  (repeat' split at hs) <;> first | (cases hs; done) | (cases hs; rfl) | (rw [Option.map_eq_some_iff] at hs; obtain ⟨_, _, h⟩ := hs; cases h; rfl) | (obtain ⟨_, _, h⟩ := av_tgt_ok hs; cases h; rfl)
theorem av_putf_sc {own i : Nat} {b : Bool} (hw : w.1 ≤ 1000) (hs : av_putf own b i len pc ls st w = some (pc2, ls2, st2, w2)) : w2.1 ≤ 1000 ∧ w2.2.2 av_scr = w.2.2 av_scr := by
  unfold av_putf at hs
  split at hs
  case h_2 => cases hs
  case h_1 =>
  split at hs
  case isFalse => cases hs
  case isTrue h0 =>
  (repeat' split at hs) <;> first | (cases hs; done) | (cases hs; exact ⟨hw, av_up_scr h0.1 hw⟩)
theorem av_xast_sc {g : Int32 → Int32} {t : Nat} (hw : w.1 ≤ 1000) (hs : av_xast g t len pc ls st w = some (pc2, ls2, st2, w2)) : w2.1 ≤ 1000 ∧ w2.2.2 av_scr = w.2.2 av_scr := by
  unfold av_xast at hs
  split at hs
  case h_2 => cases hs
  case h_1 =>
  split at hs
  case h_2 => cases hs
  case h_1 =>
  split at hs
  case isFalse => cases hs
  case isTrue h0 =>
  cases hs
  exact ⟨hw, av_up_scr h0.1 hw⟩
theorem av_rast_sc  (hw : w.1 ≤ 1000) (hs : av_rast len pc ls st w = some (pc2, ls2, st2, w2)) : w2.1 ≤ 1000 ∧ w2.2.2 av_scr = w.2.2 av_scr := by
  unfold av_rast at hs
  split at hs
  case h_2 => cases hs
  case h_1 =>
  split at hs
  case h_2 => cases hs
  case h_1 =>
  split at hs
  case isFalse => cases hs
  case isTrue h0 =>
  cases hs
  exact ⟨hw, av_up_scr h0.1.1 hw⟩
theorem av_newa_sc {t : Nat} (hw : w.1 ≤ 1000) (hs : av_newa t len pc ls st w = some (pc2, ls2, st2, w2)) : w2.1 ≤ 1000 ∧ w2.2.2 av_scr = w.2.2 av_scr := by
  unfold av_newa at hs
  simp only [av_wf, Bool.and_eq_true, decide_eq_true_eq] at hs
  split at hs
  case h_2 => cases hs
  case h_1 =>
  split at hs
  case isFalse => cases hs
  case isTrue h0 =>
  cases hs
  have h9 : w.1 < 1000 := h0.2.2.2.1.1.1
  exact ⟨h9, av_up_scr h9 (Nat.le_refl 1000)⟩
theorem av_newr_sc {own i : Nat} (hw : w.1 ≤ 1000) (hs : av_newr own i len pc ls st w = some (pc2, ls2, st2, w2)) : w2.1 ≤ 1000 ∧ w2.2.2 av_scr = w.2.2 av_scr := by
  unfold av_newr at hs
  simp only [av_wf, Bool.and_eq_true, decide_eq_true_eq] at hs
  split at hs
  case h_2 => cases hs
  case h_1 =>
  split at hs
  case isFalse => cases hs
  case isTrue h0 =>
  cases hs
  have h9 : w.1 < 1000 := h0.2.2.2.1.1.1
  exact ⟨h9, av_up_scr h9 (Nat.le_refl 1000)⟩
theorem av_new_sc {own i : Nat} (hw : w.1 ≤ 1000) (hs : av_new own i len pc ls st w = some (pc2, ls2, st2, w2)) : w2.1 ≤ 1000 ∧ w2.2.2 av_scr = w.2.2 av_scr := by
  unfold av_new at hs
  simp only [av_wf, Bool.and_eq_true, decide_eq_true_eq] at hs
  split at hs
  case h_2 => cases hs
  case h_1 =>
  split at hs
  case isFalse => cases hs
  case isTrue h0 =>
  cases hs
  have h9 : w.1 < 1000 := h0.2.1.1.1
  exact ⟨h9, av_up_scr h9 (Nat.le_refl 1000)⟩
set_option maxHeartbeats 4000000 in
theorem av_step_sc {M : av_M} {i : Instr} (hw : w.1 ≤ 1000) (hs : av_step M i len pc ls st w = some (pc2, ls2, st2, w2)) : w2.1 ≤ 1000 ∧ w2.2.2 av_scr = w.2.2 av_scr := by
  have hsm : w2 = w → w2.1 ≤ 1000 ∧ w2.2.2 av_scr = w.2.2 av_scr := fun h => by subst h; exact ⟨hw, rfl⟩
  unfold av_step at hs
  split at hs
  · exact hsm (av_ald_sw hs)
  · exact hsm (av_ild_sw hs)
  · exact hsm (av_ild_sw hs)
  · exact hsm (av_lld_sw hs)
  · exact hsm (av_lld_sw hs)
  · exact hsm (av_ist_sw hs)
  · exact hsm (av_ist_sw hs)
  · exact hsm (av_ast_sw hs)
  · exact hsm (av_iinc_sw hs)
  · exact hsm (av_push_sw hs)
  · exact hsm (av_push_sw hs)
  · exact hsm (av_push_sw hs)
  · exact hsm (av_push_sw hs)
  · exact hsm (av_ldc_sw hs)
  · exact hsm (av_ldl_sw hs)
  · exact hsm (av_bin_sw hs)
  · exact hsm (av_bin_sw hs)
  · exact hsm (av_bin_sw hs)
  · exact hsm (av_bin_sw hs)
  · exact hsm (av_bin_sw hs)
  · exact hsm (av_bin_sw hs)
  · exact hsm (av_bin_sw hs)
  · exact hsm (av_bin_sw hs)
  · exact hsm (av_div_sw hs)
  · exact hsm (av_div_sw hs)
  · exact hsm (av_un_sw hs)
  · exact hsm (av_un_sw hs)
  · exact hsm (av_un_sw hs)
  · exact hsm (av_lbin_sw hs)
  · exact hsm (av_lbin_sw hs)
  · exact hsm (av_lbin_sw hs)
  · exact hsm (av_if1_sw hs)
  · exact hsm (av_if1_sw hs)
  · exact hsm (av_if1_sw hs)
  · exact hsm (av_if1_sw hs)
  · exact hsm (av_if1_sw hs)
  · exact hsm (av_if1_sw hs)
  · exact hsm (av_if2_sw hs)
  · exact hsm (av_if2_sw hs)
  · exact hsm (av_if2_sw hs)
  · exact hsm (av_if2_sw hs)
  · exact hsm (av_if2_sw hs)
  · exact hsm (av_if2_sw hs)
  · split at hs
    · obtain ⟨_, _, h⟩ := av_tgt_ok hs
      cases h
      exact ⟨hw, rfl⟩
    · cases hs
  · exact hsm (av_tab_sw hs)
  · exact hsm (av_getf_sw hs)
  · exact av_putf_sc hw hs
  · split at hs
    · exact hsm (av_sald_sw hs)
    · exact hsm (av_xald_sw hs)
  · exact hsm (av_xald_sw hs)
  · exact av_xast_sc hw hs
  · exact av_xast_sc hw hs
  · exact hsm (av_rald_sw hs)
  · exact av_rast_sc hw hs
  · split at hs
    · exact hsm (av_slen_sw hs)
    · exact hsm (av_alen_sw hs)
  · exact av_newa_sc hw hs
  · exact av_newa_sc hw hs
  · exact av_newr_sc hw hs
  · exact av_new_sc hw hs
  · exact hsm (av_dup_sw hs)
  · exact hsm (av_dup2_sw hs)
  · exact hsm (av_pop_sw hs)
  · exact hsm (av_ifn_sw hs)
  · exact hsm (av_obj_sw hs)
  · exact hsm (av_mmx_sw hs)
  · cases hs
end AVS2
