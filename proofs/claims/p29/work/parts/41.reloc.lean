/-! THE SECOND OBJECT: a run that makes no cell is the same run when the cells 0 to 32 and 33 to 65 change places -/
def rk (k : Nat) : Nat := if k < 33 then k + 33 else if k < 66 then k - 33 else k
theorem rk_rk (k : Nat) : rk (rk k) = k := by
  unfold rk
  split <;> split <;> (try split) <;> omega
theorem rk_lt {k : Nat} (h : k < 66) : rk k < 66 := by
  unfold rk
  split <;> (try split) <;> omega
theorem rk_lo {k : Nat} (h : k < 33) : rk k = k + 33 := if_pos h
theorem rk_hi {k : Nat} (h : 66 ≤ k) : rk k = k := by
  unfold rk
  rw [if_neg (by omega), if_neg (by omega)]
def rv (v : Value) : Value := match v with
  | .ref a => .ref (rk a)
  | v => v
theorem rv_cat (v : Value) : (rv v).category = v.category := by cases v <;> rfl
theorem rv_rv (v : Value) : rv (rv v) = v := by
  cases v <;> try rfl
  show Value.ref (rk (rk _)) = _
  rw [rk_rk]
def rEn (e : av_E) : av_E := match e with
  | .inl (t, n, .inr (.inr (.inr (.inr f)))) => .inl (t, n, .inr (.inr (.inr (.inr (fun j => (f j).map rk)))))
  | .inl q => .inl q
  | .inr (c, fs) => .inr (c, fs.map rv)
theorem map_rv2 (fs : List Value) : (fs.map rv).map rv = fs := by
  rw [List.map_map]
  have : (rv ∘ rv) = id := funext rv_rv
  rw [this, List.map_id]
theorem rEn_rEn (e : av_E) : rEn (rEn e) = e := by
  rcases e with ⟨t, n, f | f | f | f | f⟩ | ⟨c, fs⟩ <;> try rfl
  · show (Sum.inl (t, n, Sum.inr (Sum.inr (Sum.inr (Sum.inr (fun j => ((f j).map rk).map rk))))) : av_E) = _
    have : (fun j => ((f j).map rk).map rk) = f := by
      funext j
      cases h : f j with
      | none => rfl
      | some x =>
        show some (rk (rk x)) = some x
        rw [rk_rk]
    rw [this]
  · show (Sum.inr (c, (fs.map rv).map rv) : av_E) = _
    rw [map_rv2]
def rW (w : av_W) : av_W := (w.1, w.2.1, fun k => rEn (w.2.2 (rk k)))
theorem rW_rW (w : av_W) : rW (rW w) = w := by
  have : (fun k => rEn (rEn (w.2.2 (rk (rk k))))) = w.2.2 := by
    funext k
    rw [rEn_rEn, rk_rk]
  show (w.1, w.2.1, fun k => rEn (rEn (w.2.2 (rk (rk k))))) = w
  rw [this]
theorem rW_at (w : av_W) (a : Nat) : (rW w).2.2 (rk a) = rEn (w.2.2 a) := by
  show rEn (w.2.2 (rk (rk a))) = _
  rw [rk_rk]
theorem rW_up (w : av_W) (a : Nat) (e : av_E) : av_up (rW w).2.2 (rk a) (rEn e) = fun k => rEn (av_up w.2.2 a e (rk k)) := by
  funext k
  show (if k = rk a then rEn e else rEn (w.2.2 (rk k))) = rEn (if rk k = a then e else w.2.2 (rk k))
  by_cases h : k = rk a
  · have h2 : rk k = a := by rw [h, rk_rk]
    rw [if_pos h, if_pos h2]
  · have h2 : ¬ rk k = a := fun q => h (by rw [← q, rk_rk])
    rw [if_neg h, if_neg h2]
def rL (ls : av_L) : av_L := ls.map (Option.map rv)
theorem rL_get (ls : av_L) (i : Nat) : (rL ls)[i]? = (ls[i]?).map (Option.map rv) := List.getElem?_map
section AVR
variable {len pc pc2 : Nat} {ls ls2 : av_L} {st st2 : List Value} {w w2 : av_W}
theorem av_prev_rl (ls : av_L) (i : Nat) : av_prev (rL ls) i = av_prev ls i := by
  cases i with
  | zero => rfl
  | succ j =>
    show (match (rL ls)[j]? with | some (some v) => v.category == 2 | _ => false) = (match ls[j]? with | some (some v) => v.category == 2 | _ => false)
    rw [rL_get]
    cases h : ls[j]? with
    | none => rfl
    | some o => cases o with
      | none => rfl
      | some v =>
        show ((rv v).category == 2) = (v.category == 2)
        rw [rv_cat]
theorem av_sto_rl {i : Nat} {v : Value} {l : av_L} (h : av_sto ls i v = some l) : av_sto (rL ls) i (rv v) = some (rL l) := by
  unfold av_sto at h ⊢
  rw [av_prev_rl]
  split at h
  case isFalse => cases h
  case isTrue h0 =>
  cases h
  rw [if_pos ⟨by unfold rL; rw [List.length_map]; exact h0.1, h0.2⟩]
  unfold rL
  rw [List.map_set]
  rfl
theorem av_push_rl {n : Nat} {v : Value} (hs : av_push n len pc ls v st w = some (pc2, ls2, st2, w2)) : av_push n len pc (rL ls) (rv v) (st.map rv) (rW w) = some (pc2, rL ls2, st2.map rv, rW w2) := by
  unfold av_push at hs ⊢
  split at hs
  case isFalse => cases hs
  case isTrue h0 =>
  cases hs
  rw [if_pos h0]
  rfl
theorem av_ild_rl {n i : Nat} (hs : av_ild n i len pc ls st w = some (pc2, ls2, st2, w2)) : av_ild n i len pc (rL ls) (st.map rv) (rW w) = some (pc2, rL ls2, st2.map rv, rW w2) := by
  unfold av_ild at hs ⊢
  rw [rL_get]
  split at hs
  case h_2 => cases hs
  case h_1 x hx =>
  rw [hx]
  exact av_push_rl hs
theorem av_lld_rl {n i : Nat} (hs : av_lld n i len pc ls st w = some (pc2, ls2, st2, w2)) : av_lld n i len pc (rL ls) (st.map rv) (rW w) = some (pc2, rL ls2, st2.map rv, rW w2) := by
  unfold av_lld at hs ⊢
  rw [rL_get]
  split at hs
  case h_2 => cases hs
  case h_1 x hx =>
  rw [hx]
  exact av_push_rl hs
theorem av_ald_rl {n i : Nat} (hs : av_ald n i len pc ls st w = some (pc2, ls2, st2, w2)) : av_ald n i len pc (rL ls) (st.map rv) (rW w) = some (pc2, rL ls2, st2.map rv, rW w2) := by
  unfold av_ald at hs ⊢
  rw [rL_get]
  split at hs
  case h_2 => cases hs
  case h_1 x hx =>
  rw [hx]
  exact av_push_rl hs
theorem av_ist_rl {n i : Nat} (hs : av_ist n i len pc ls st w = some (pc2, ls2, st2, w2)) : av_ist n i len pc (rL ls) (st.map rv) (rW w) = some (pc2, rL ls2, st2.map rv, rW w2) := by
  unfold av_ist at hs ⊢
  split at hs
  case h_2 => cases hs
  case h_1 x rest =>
  split at hs
  case isFalse => cases hs
  case isTrue h0 =>
  rw [Option.map_eq_some_iff] at hs
  obtain ⟨l, h1, h2⟩ := hs
  show (if len = n then (av_sto (rL ls) i (rv (.int x))).map (fun l => (pc + n, l, rest.map rv, rW w)) else none) = _
  rw [if_pos h0, av_sto_rl h1]
  cases h2
  rfl
theorem av_ast_rl {n i : Nat} (hs : av_ast n i len pc ls st w = some (pc2, ls2, st2, w2)) : av_ast n i len pc (rL ls) (st.map rv) (rW w) = some (pc2, rL ls2, st2.map rv, rW w2) := by
  unfold av_ast at hs ⊢
  split at hs
  case h_2 => cases hs
  case h_1 x rest =>
  split at hs
  case isFalse => cases hs
  case isTrue h0 =>
  rw [Option.map_eq_some_iff] at hs
  obtain ⟨l, h1, h2⟩ := hs
  show (if len = n then (av_sto (rL ls) i (rv (.ref x))).map (fun l => (pc + n, l, rest.map rv, rW w)) else none) = _
  rw [if_pos h0, av_sto_rl h1]
  cases h2
  rfl
theorem av_iinc_rl {i : Nat} {n : Int} (hs : av_iinc i n len pc ls st w = some (pc2, ls2, st2, w2)) : av_iinc i n len pc (rL ls) (st.map rv) (rW w) = some (pc2, rL ls2, st2.map rv, rW w2) := by
  unfold av_iinc at hs ⊢
  rw [rL_get]
  split at hs
  case h_2 => cases hs
  case h_1 x hx =>
  rw [hx]
  split at hs
  case isFalse => cases hs
  case isTrue h0 =>
  rw [Option.map_eq_some_iff] at hs
  obtain ⟨l, h1, h2⟩ := hs
  cases h2
  show (if len = 3 then (av_sto (rL ls) i (rv (.int (x + Int32.ofInt n)))).map (fun l => (pc + 3, l, st.map rv, rW w)) else none) = _
  rw [if_pos h0, av_sto_rl h1]
  rfl
theorem av_bin_rl {f : Int32 → Int32 → Int32} (hs : av_bin f len pc ls st w = some (pc2, ls2, st2, w2)) : av_bin f len pc (rL ls) (st.map rv) (rW w) = some (pc2, rL ls2, st2.map rv, rW w2) := by
  unfold av_bin at hs ⊢
  split at hs
  case h_2 => cases hs
  case h_1 => exact av_push_rl hs
theorem av_div_rl {f : Int32 → Int32 → Int32} (hs : av_div f len pc ls st w = some (pc2, ls2, st2, w2)) : av_div f len pc (rL ls) (st.map rv) (rW w) = some (pc2, rL ls2, st2.map rv, rW w2) := by
  unfold av_div at hs ⊢
  split at hs
  case h_2 => cases hs
  case h_1 y x rest =>
  split at hs
  case isTrue => cases hs
  case isFalse h0 =>
  exact (if_neg h0).trans (av_push_rl hs)
theorem av_lbin_rl {f : Int64 → Int64 → Value} (hf : ∀ x y, rv (f x y) = f x y) (hs : av_lbin f len pc ls st w = some (pc2, ls2, st2, w2)) : av_lbin f len pc (rL ls) (st.map rv) (rW w) = some (pc2, rL ls2, st2.map rv, rW w2) := by
  unfold av_lbin at hs ⊢
  split at hs
  case h_2 => cases hs
  case h_1 y x rest =>
  have h := av_push_rl hs
  rw [hf] at h
  exact h
theorem av_un_rl {f : Int32 → Value} (hf : ∀ x, rv (f x) = f x) (hs : av_un f len pc ls st w = some (pc2, ls2, st2, w2)) : av_un f len pc (rL ls) (st.map rv) (rW w) = some (pc2, rL ls2, st2.map rv, rW w2) := by
  unfold av_un at hs ⊢
  split at hs
  case h_2 => cases hs
  case h_1 x rest =>
  have h := av_push_rl hs
  rw [hf] at h
  exact h
theorem av_ifs_rl {b : Prop} {db : Decidable b} {off : Int} (hs : av_ifs b off len pc ls st w = some (pc2, ls2, st2, w2)) : av_ifs b off len pc (rL ls) (st.map rv) (rW w) = some (pc2, rL ls2, st2.map rv, rW w2) := by
  unfold av_ifs av_tgt at hs ⊢
  split at hs
  case isFalse => cases hs
  case isTrue h0 =>
  split at hs
  case isFalse => cases hs
  case isTrue h1 =>
  cases hs
  rw [if_pos h0, if_pos h1]
theorem av_if1_rl {cnd : Int32 → Prop} {dc : ∀ x, Decidable (cnd x)} {off : Int} (hs : av_if1 cnd off len pc ls st w = some (pc2, ls2, st2, w2)) : av_if1 cnd off len pc (rL ls) (st.map rv) (rW w) = some (pc2, rL ls2, st2.map rv, rW w2) := by
  unfold av_if1 at hs ⊢
  split at hs
  case h_2 => cases hs
  case h_1 => exact av_ifs_rl hs
theorem av_if2_rl {cnd : Int32 → Int32 → Prop} {dc : ∀ x y, Decidable (cnd x y)} {off : Int} (hs : av_if2 cnd off len pc ls st w = some (pc2, ls2, st2, w2)) : av_if2 cnd off len pc (rL ls) (st.map rv) (rW w) = some (pc2, rL ls2, st2.map rv, rW w2) := by
  unfold av_if2 at hs ⊢
  split at hs
  case h_2 => cases hs
  case h_1 => exact av_ifs_rl hs
theorem av_tab_rl {dflt lo hi : Int} {offs : Array Int} (hs : av_tab dflt lo hi offs pc ls st w = some (pc2, ls2, st2, w2)) : av_tab dflt lo hi offs pc (rL ls) (st.map rv) (rW w) = some (pc2, rL ls2, st2.map rv, rW w2) := by
  unfold av_tab at hs ⊢
  split at hs
  case h_2 => cases hs
  case h_1 x rest =>
  unfold av_tgt at hs ⊢
  split at hs
  case isTrue h0 =>
    split at hs
    case isFalse => cases hs
    case isTrue h1 =>
    cases hs
    exact (if_pos h0).trans (if_pos h1)
  case isFalse h0 =>
    refine (if_neg h0).trans ?_
    split at hs
    case h_2 => cases hs
    case h_1 off h2 =>
    split at hs
    case isFalse => cases hs
    case isTrue h1 =>
    cases hs
    exact if_pos h1
theorem av_dup_rl (hs : av_dup len pc ls st w = some (pc2, ls2, st2, w2)) : av_dup len pc (rL ls) (st.map rv) (rW w) = some (pc2, rL ls2, st2.map rv, rW w2) := by
  unfold av_dup at hs ⊢
  split at hs
  case h_2 => cases hs
  case h_1 v rest =>
  split at hs
  case isFalse => cases hs
  case isTrue h0 =>
  cases hs
  exact if_pos ⟨h0.1, by rw [rv_cat]; exact h0.2⟩
theorem av_dup2_rl (hs : av_dup2 len pc ls st w = some (pc2, ls2, st2, w2)) : av_dup2 len pc (rL ls) (st.map rv) (rW w) = some (pc2, rL ls2, st2.map rv, rW w2) := by
  unfold av_dup2 at hs ⊢
  split at hs
  case h_2 => cases hs
  case h_1 v u rest =>
  split at hs
  case isFalse => cases hs
  case isTrue h0 =>
  cases hs
  exact if_pos ⟨h0.1, by rw [rv_cat]; exact h0.2.1, by rw [rv_cat]; exact h0.2.2⟩
theorem av_pop_rl (hs : av_pop len pc ls st w = some (pc2, ls2, st2, w2)) : av_pop len pc (rL ls) (st.map rv) (rW w) = some (pc2, rL ls2, st2.map rv, rW w2) := by
  unfold av_pop at hs ⊢
  split at hs
  case h_2 => cases hs
  case h_1 v rest =>
  split at hs
  case isFalse => cases hs
  case isTrue h0 =>
  cases hs
  exact if_pos ⟨h0.1, by rw [rv_cat]; exact h0.2⟩
theorem av_ifn_rl (hs : av_ifn len pc ls st w = some (pc2, ls2, st2, w2)) : av_ifn len pc (rL ls) (st.map rv) (rW w) = some (pc2, rL ls2, st2.map rv, rW w2) := by
  unfold av_ifn at hs ⊢
  split at hs
  case h_2 => cases hs
  case h_1 rest =>
  split at hs
  case isFalse => cases hs
  case isTrue h0 =>
  cases hs
  exact if_pos h0
theorem av_ldc_rl {own i : Nat} (hs : av_ldc own i len pc ls st w = some (pc2, ls2, st2, w2)) : av_ldc own i len pc (rL ls) (st.map rv) (rW w) = some (pc2, rL ls2, st2.map rv, rW w2) := by
  unfold av_ldc at hs ⊢
  split at hs
  case h_2 => cases hs
  case h_1 => exact av_push_rl hs
theorem av_ldl_rl {own i : Nat} (hs : av_ldl own i len pc ls st w = some (pc2, ls2, st2, w2)) : av_ldl own i len pc (rL ls) (st.map rv) (rW w) = some (pc2, rL ls2, st2.map rv, rW w2) := by
  unfold av_ldl at hs ⊢
  split at hs
  case h_2 => cases hs
  case h_1 => exact av_push_rl hs
theorem av_obj_rl {own i h : Nat} (hs : av_obj own i h len pc ls st w = some (pc2, ls2, st2, w2)) : av_obj own i h len pc (rL ls) (st.map rv) (rW w) = some (pc2, rL ls2, st2.map rv, rW w2) := by
  unfold av_obj at hs ⊢
  split at hs
  case h_2 => cases hs
  case h_1 =>
  split at hs
  case isFalse => cases hs
  case isTrue h0 =>
  cases hs
  exact if_pos h0
theorem cats_rv (l : List Value) : (l.map rv).map (fun v => v.category) = l.map (fun v => v.category) := by
  rw [List.map_map]
  exact List.map_congr_left (fun v _ => rv_cat v)
theorem av_mmx_rl {own i h : Nat} (hs : av_mmx own i h len pc ls st w = some (pc2, ls2, st2, w2)) : av_mmx own i h len pc (rL ls) (st.map rv) (rW w) = some (pc2, rL ls2, st2.map rv, rW w2) := by
  unfold av_mmx at hs ⊢
  split at hs
  case h_2 => cases hs
  case h_1 y x rest =>
  split at hs
  case h_2 => cases hs
  case h_1 b hb =>
  split at hs
  case isFalse => cases hs
  case isTrue h0 =>
  cases hs
  exact if_pos ⟨h0.1, h0.2.1, by rw [cats_rv]; exact h0.2.2⟩
theorem av_getf_rl {own i : Nat} (h66 : w.1 = 66) (hs : av_getf own i len pc ls st w = some (pc2, ls2, st2, w2)) : av_getf own i len pc (rL ls) (st.map rv) (rW w) = some (pc2, rL ls2, st2.map rv, rW w2) := by
  unfold av_getf at hs ⊢
  split at hs
  case h_2 => cases hs
  case h_1 a rest =>
  split at hs
  case isFalse => cases hs
  case isTrue h0 =>
  split at hs
  case h_2 => cases hs
  case h_1 ci k _h hf =>
  split at hs
  case h_2 => cases hs
  case h_1 c2 fs he =>
  split at hs
  case isFalse => cases hs
  case isTrue h1 =>
  split at hs
  case h_2 => cases hs
  case h_1 v hv =>
  cases hs
  refine (if_pos ⟨by show rk a < w.1; rw [h66]; exact rk_lt (h66 ▸ h0.1), h0.2⟩).trans ?_
  try dsimp only [List.map]
  try rw [hf]
  try dsimp only
  rw [rW_at, he]
  show (if c2 = ci then (match (fs.map rv)[k]? with | some v => some (pc + 3, rL ls, v :: rest.map rv, rW w) | none => none) else none) = _
  rw [if_pos h1, List.getElem?_map, hv]
  rfl
theorem av_fit_rv {ty : FieldType} {v : Value} (h : av_fit ty v = true) : av_fit ty (rv v) = true := by
  cases v <;> first | exact h | (cases ty <;> first | exact h | rfl | (cases h))
theorem av_putf_rl {own i : Nat} {b : Bool} (h66 : w.1 = 66) (hs : av_putf own b i len pc ls st w = some (pc2, ls2, st2, w2)) : av_putf own b i len pc (rL ls) (st.map rv) (rW w) = some (pc2, rL ls2, st2.map rv, rW w2) := by
  unfold av_putf at hs ⊢
  split at hs
  case h_2 => cases hs
  case h_1 v a rest =>
  split at hs
  case isFalse => cases hs
  case isTrue h0 =>
  split at hs
  case h_2 => cases hs
  case h_1 ci k h hf =>
  split at hs
  case h_2 => cases hs
  case h_1 c2 fs he =>
  split at hs
  case isFalse => cases hs
  case isTrue h1 =>
  cases hs
  refine (if_pos ⟨by show rk a < w.1; rw [h66]; exact rk_lt (h66 ▸ h0.1), h0.2⟩).trans ?_
  try dsimp only [List.map]
  try rw [hf]
  try dsimp only
  rw [rW_at, he]
  refine (if_pos ⟨h1.1, by rw [List.length_map]; exact h1.2.1, av_fit_rv h1.2.2.1, h1.2.2.2⟩).trans ?_
  have e : (Sum.inr (ci, (fs.map rv).set k (rv v)) : av_E) = rEn (.inr (ci, fs.set k v)) := by
    show _ = (Sum.inr (ci, (fs.set k v).map rv) : av_E)
    rw [List.map_set]
  rw [e, rW_up]
  rfl
theorem av_xald_rl {t : Nat} (h66 : w.1 = 66) (hs : av_xald t len pc ls st w = some (pc2, ls2, st2, w2)) : av_xald t len pc (rL ls) (st.map rv) (rW w) = some (pc2, rL ls2, st2.map rv, rW w2) := by
  unfold av_xald at hs ⊢
  split at hs
  case h_2 => cases hs
  case h_1 i a rest =>
  split at hs
  case h_2 => cases hs
  case h_1 t2 n f he =>
  split at hs
  case isFalse => cases hs
  case isTrue h0 =>
  show (match (rW w).2.2 (rk a) with | .inl (t2, n, .inl f) => if rk a < w.1 ∧ len = 1 ∧ t2 = t ∧ av_inr i n = true then some (pc + 1, rL ls, Value.int (f i.toNatClampNeg) :: List.map rv rest, rW w) else none | _ => none) = _
  rw [rW_at, he]
  cases hs
  exact if_pos ⟨by rw [h66]; exact rk_lt (h66 ▸ h0.1), h0.2⟩
theorem av_rald_rl (h66 : w.1 = 66) (hs : av_rald len pc ls st w = some (pc2, ls2, st2, w2)) : av_rald len pc (rL ls) (st.map rv) (rW w) = some (pc2, rL ls2, st2.map rv, rW w2) := by
  unfold av_rald at hs ⊢
  split at hs
  case h_2 => cases hs
  case h_1 i a rest =>
  split at hs
  case h_2 => cases hs
  case h_1 t2 n f he =>
  split at hs
  case isFalse => cases hs
  case isTrue h0 =>
  split at hs
  case h_2 => cases hs
  case h_1 r hr =>
  show (match (rW w).2.2 (rk a) with | .inl (t2, n, .inr (.inr (.inr (.inr f)))) => if rk a < w.1 ∧ len = 1 ∧ t2 = 2 ∧ av_inr i n = true then (match f i.toNatClampNeg with | some r => some (pc + 1, rL ls, Value.ref r :: List.map rv rest, rW w) | none => none) else none | _ => none) = _
  rw [rW_at, he]
  refine (if_pos ⟨by rw [h66]; exact rk_lt (h66 ▸ h0.1), h0.2⟩).trans ?_
  dsimp only
  rw [hr]
  cases hs
  rfl
theorem av_alen_rl (h66 : w.1 = 66) (hs : av_alen len pc ls st w = some (pc2, ls2, st2, w2)) : av_alen len pc (rL ls) (st.map rv) (rW w) = some (pc2, rL ls2, st2.map rv, rW w2) := by
  unfold av_alen at hs ⊢
  split at hs
  case h_2 => cases hs
  case h_1 a rest =>
  split at hs
  case h_2 => cases hs
  case h_1 t n q he =>
  split at hs
  case isFalse => cases hs
  case isTrue h0 =>
  show (match (rW w).2.2 (rk a) with | .inl (t, n, _) => if rk a < w.1 ∧ len = 1 ∧ t < 3 then some (pc + 1, rL ls, Value.int (Int32.ofNat n) :: List.map rv rest, rW w) else none | _ => none) = _
  rw [rW_at, he]
  have h1 : rk a < w.1 ∧ len = 1 ∧ t < 3 := ⟨by rw [h66]; exact rk_lt (h66 ▸ h0.1), h0.2⟩
  cases hs
  rcases q with f | f | f | f | f <;> exact if_pos h1
theorem av_xast_rl {g : Int32 → Int32} {t : Nat} (h66 : w.1 = 66) (hs : av_xast g t len pc ls st w = some (pc2, ls2, st2, w2)) : av_xast g t len pc (rL ls) (st.map rv) (rW w) = some (pc2, rL ls2, st2.map rv, rW w2) := by
  unfold av_xast at hs ⊢
  split at hs
  case h_2 => cases hs
  case h_1 x i a rest =>
  split at hs
  case h_2 => cases hs
  case h_1 t2 n f he =>
  split at hs
  case isFalse => cases hs
  case isTrue h0 =>
  show (match (rW w).2.2 (rk a) with | .inl (t2, n, .inl f) => if rk a < w.1 ∧ len = 1 ∧ t2 = t ∧ av_inr i n = true then some (pc + 1, rL ls, List.map rv rest, (w.1, w.2.1, av_up (rW w).2.2 (rk a) (.inl (t, n, .inl (upd f i.toNatClampNeg (g x)))))) else none | _ => none) = _
  rw [rW_at, he]
  refine (if_pos ⟨by rw [h66]; exact rk_lt (h66 ▸ h0.1), h0.2⟩).trans ?_
  have e := rW_up w a (.inl (t, n, .inl (upd f i.toNatClampNeg (g x))))
  refine (congrArg (fun z => some (pc + 1, rL ls, List.map rv rest, ((w.1, w.2.1, z) : av_W))) e).trans ?_
  cases hs
  rfl
theorem av_rast_rl (h66 : w.1 = 66) (hs : av_rast len pc ls st w = some (pc2, ls2, st2, w2)) : av_rast len pc (rL ls) (st.map rv) (rW w) = some (pc2, rL ls2, st2.map rv, rW w2) := by
  unfold av_rast at hs ⊢
  split at hs
  case h_2 => cases hs
  case h_1 v i a rest =>
  split at hs
  case h_2 => cases hs
  case h_1 t2 n f c2 q he he2 =>
  split at hs
  case isFalse => cases hs
  case isTrue h0 =>
  show (match (rW w).2.2 (rk a), (rW w).2.2 (rk v) with | .inl (t2, n, .inr (.inr (.inr (.inr f)))), .inr (c2, _) => if (rk a < w.1 ∧ rk v < w.1) ∧ len = 1 ∧ t2 = 2 ∧ c2 = 0 ∧ av_inr i n = true then some (pc + 1, rL ls, List.map rv rest, (w.1, w.2.1, av_up (rW w).2.2 (rk a) (.inl (2, n, .inr (.inr (.inr (.inr (va_up f i.toNatClampNeg (some (rk v)))))))))) else none | _, _ => none) = _
  rw [rW_at, rW_at, he, he2]
  refine (if_pos ⟨⟨by rw [h66]; exact rk_lt (h66 ▸ h0.1.1), by rw [h66]; exact rk_lt (h66 ▸ h0.1.2)⟩, h0.2⟩).trans ?_
  have e2 : va_up (fun j => (f j).map rk) i.toNatClampNeg (some (rk v)) = fun j => (va_up f i.toNatClampNeg (some v) j).map rk := by
    funext j
    unfold va_up
    split <;> rfl
  have e := rW_up w a (.inl (2, n, .inr (.inr (.inr (.inr (va_up f i.toNatClampNeg (some v)))))))
  rw [e2]
  refine (congrArg (fun z => some (pc + 1, rL ls, List.map rv rest, ((w.1, w.2.1, z) : av_W))) e).trans ?_
  cases hs
  rfl
theorem av_gt_rl {off : Int} (hs : (if len = 3 then av_tgt pc off (fun t => some (t, ls, st, w)) else none) = some (pc2, ls2, st2, w2)) : (if len = 3 then av_tgt pc off (fun t => some (t, rL ls, st.map rv, rW w)) else none) = some (pc2, rL ls2, st2.map rv, rW w2) := by
  unfold av_tgt at hs ⊢
  split at hs
  case isFalse => cases hs
  case isTrue h0 =>
  split at hs
  case isFalse => cases hs
  case isTrue h1 =>
  cases hs
  rw [if_pos h0, if_pos h1]
theorem av_newa_no {t : Nat} (hn : w2.1 = w.1) (hs : av_newa t len pc ls st w = some (pc2, ls2, st2, w2)) : False := by
  unfold av_newa at hs
  (repeat' split at hs) <;> first | (cases hs; done) | (cases hs; exact absurd hn (Nat.succ_ne_self _))
theorem av_newr_no {own i : Nat} (hn : w2.1 = w.1) (hs : av_newr own i len pc ls st w = some (pc2, ls2, st2, w2)) : False := by
  unfold av_newr at hs
  (repeat' split at hs) <;> first | (cases hs; done) | (cases hs; exact absurd hn (Nat.succ_ne_self _))
theorem av_new_no {own i : Nat} (hn : w2.1 = w.1) (hs : av_new own i len pc ls st w = some (pc2, ls2, st2, w2)) : False := by
  unfold av_new at hs
  (repeat' split at hs) <;> first | (cases hs; done) | (cases hs; exact absurd hn (Nat.succ_ne_self _))
set_option maxHeartbeats 4000000 in
theorem av_step_rl {M : av_M} {i : Instr} (hM : ¬ M.2.2.2.2.1 = 99) (hw : w.1 = 66) (hn : w2.1 = w.1) (hs : av_step M i len pc ls st w = some (pc2, ls2, st2, w2)) : av_step M i len pc (rL ls) (st.map rv) (rW w) = some (pc2, rL ls2, st2.map rv, rW w2) := by
  unfold av_step at hs
  split at hs
  · exact av_ald_rl hs
  · exact av_ild_rl hs
  · exact av_ild_rl hs
  · exact av_lld_rl hs
  · exact av_lld_rl hs
  · exact av_ist_rl hs
  · exact av_ist_rl hs
  · exact av_ast_rl hs
  · exact av_iinc_rl hs
  · exact av_push_rl hs
  · exact av_push_rl hs
  · exact av_push_rl hs
  · exact av_push_rl hs
  · exact av_ldc_rl hs
  · exact av_ldl_rl hs
  · exact av_bin_rl hs
  · exact av_bin_rl hs
  · exact av_bin_rl hs
  · exact av_bin_rl hs
  · exact av_bin_rl hs
  · exact av_bin_rl hs
  · exact av_bin_rl hs
  · exact av_bin_rl hs
  · exact av_div_rl hs
  · exact av_div_rl hs
  · exact av_un_rl (fun _ => rfl) hs
  · exact av_un_rl (fun _ => rfl) hs
  · exact av_un_rl (fun _ => rfl) hs
  · exact av_lbin_rl (fun _ _ => rfl) hs
  · exact av_lbin_rl (fun _ _ => rfl) hs
  · exact av_lbin_rl (fun _ _ => rfl) hs
  · exact av_if1_rl hs
  · exact av_if1_rl hs
  · exact av_if1_rl hs
  · exact av_if1_rl hs
  · exact av_if1_rl hs
  · exact av_if1_rl hs
  · exact av_if2_rl hs
  · exact av_if2_rl hs
  · exact av_if2_rl hs
  · exact av_if2_rl hs
  · exact av_if2_rl hs
  · exact av_if2_rl hs
  · exact av_gt_rl hs
  · exact av_tab_rl hs
  · exact av_getf_rl hw hs
  · exact av_putf_rl hw hs
  · rw [if_neg hM] at hs
    exact (if_neg hM).trans (av_xald_rl hw hs)
  · exact av_xald_rl hw hs
  · exact av_xast_rl hw hs
  · exact av_xast_rl hw hs
  · exact av_rald_rl hw hs
  · exact av_rast_rl hw hs
  · rw [if_neg hM] at hs
    exact (if_neg hM).trans (av_alen_rl hw hs)
  · exact (av_newa_no hn hs).elim
  · exact (av_newa_no hn hs).elim
  · exact (av_newr_no hn hs).elim
  · exact (av_new_no hn hs).elim
  · exact av_dup_rl hs
  · exact av_dup2_rl hs
  · exact av_pop_rl hs
  · exact av_ifn_rl hs
  · exact av_obj_rl hs
  · exact av_mmx_rl hs
  · cases hs
theorem av_ret_rl {M : av_M} {i : Instr} {r : Option Value} (h : av_ret M i len st = some r) : av_ret M i len (st.map rv) = some (r.map rv) := by
  unfold av_ret at h ⊢
  split at h
  · split at h
    case h_2 => cases h
    case h_1 v =>
    split at h
    case h_2 => cases h
    case h_1 ty hty =>
    split at h
    case isFalse => cases h
    case isTrue h0 =>
    cases h
    try dsimp only [List.map]
    try rw [hty]
    exact if_pos h0
  · split at h
    case h_2 => cases h
    case h_1 =>
    split at h
    case isFalse => cases h
    case isTrue h0 =>
    cases h
    exact if_pos h0
  · split at h
    case h_2 => cases h
    case h_1 a =>
    split at h
    case h_2 => cases h
    case h_1 ty hty =>
    split at h
    case isFalse => cases h
    case isTrue h0 =>
    cases h
    try dsimp only [List.map, rv]
    try rw [hty]
    exact if_pos ⟨h0.1, av_fit_rv (v := .ref a) h0.2⟩
  · cases h
theorem av_ret_rn {M : av_M} {i : Instr} (h : av_ret M i len st = none) : av_ret M i len (st.map rv) = none := by
  cases h2 : av_ret M i len (st.map rv) with
  | none => rfl
  | some r =>
    have h3 := av_ret_rl h2
    rw [map_rv2, h] at h3
    cases h3
theorem av_cut_rl {M M2 : av_M} {idx k : Nat} {ks : List Nat} {stat : Bool} {as rest : List Value} (h : av_cut M len idx ks stat st = some (k, M2, as, rest)) : av_cut M len idx ks stat (st.map rv) = some (k, M2, as.map rv, rest.map rv) := by
  unfold av_cut at h ⊢
  split at h
  case h_2 => cases h
  case h_1 k0 M0 hres =>
  dsimp only at h
  obtain ⟨⟨h1, h2, h3, h4, h5⟩, h6⟩ := Option.ite_none_right_eq_some.mp h
  cases h6
  try rw [hres]
  try dsimp only
  rw [if_pos ⟨h1, h2, h3, by rw [List.length_map]; exact h4, by rw [← List.map_drop, cats_rv]; exact h5⟩, List.map_reverse, List.map_take, List.map_drop]
theorem av_inv_rl {M M2 : av_M} {i : Instr} {k : Nat} {as rest : List Value} (h : av_inv M i len st = some (k, M2, as, rest)) : av_inv M i len (st.map rv) = some (k, M2, as.map rv, rest.map rv) := by
  unfold av_inv at h ⊢
  split at h
  · exact av_cut_rl h
  · exact av_cut_rl h
  · exact av_cut_rl h
  · cases h
theorem av_inv_rn {M : av_M} {i : Instr} (h : av_inv M i len st = none) : av_inv M i len (st.map rv) = none := by
  cases h2 : av_inv M i len (st.map rv) with
  | none => rfl
  | some q =>
    obtain ⟨k, M2, as, rest⟩ := q
    have h3 := av_inv_rl h2
    rw [map_rv2, h] at h3
    cases h3
theorem av_rcv_rl {k : Nat} {M2 : av_M} {as : List Value} (h66 : w.1 = 66) (h : av_rcv k M2 as w = true) : av_rcv k M2 (as.map rv) (rW w) = true := by
  unfold av_rcv at h ⊢
  split at h
  · rfl
  · rfl
  · rfl
  · rfl
  · rename_i b As h4 h5 h6 h7
    simp only [Bool.and_eq_true, decide_eq_true_eq] at h
    dsimp only [List.map, rv]
    split
    · rfl
    · rfl
    · rfl
    · rfl
    · rename_i b2 As2 _ _ _ _ e2
      cases e2
      rw [rW_at]
      simp only [Bool.and_eq_true, decide_eq_true_eq]
      refine ⟨by show rk b < w.1; rw [h66]; exact rk_lt (h66 ▸ h.1), ?_⟩
      have h8 := h.2
      generalize w.2.2 b = e at h8 ⊢
      split at h8
      · exact h8
      · cases h8
    · rename_i a1 a2 a3 a4 a5
      first | exact (a1 _ _ rfl).elim | exact (a2 _ _ rfl).elim | exact (a3 _ _ rfl).elim | exact (a4 _ _ rfl).elim | exact (a5 _ _ rfl).elim
  · cases h
theorem av_ents_rl (as : List Value) : av_ents (as.map rv) = rL (av_ents as) := by
  induction as with
  | nil => rfl
  | cons v vs ih =>
    show (if (rv v).category = 2 then some (rv v) :: none :: av_ents (vs.map rv) else some (rv v) :: av_ents (vs.map rv)) = rL (if v.category = 2 then some v :: none :: av_ents vs else some v :: av_ents vs)
    rw [rv_cat, ih]
    split <;> rfl
theorem av_ent_rl (as : List Value) (n : Nat) : av_ent (as.map rv) n = rL (av_ent as n) := by
  unfold av_ent
  rw [av_ents_rl]
  unfold rL
  rw [List.length_map, List.map_append, List.map_replicate]
  rfl
theorem arun_rl : ∀ (f : Nat) (M : av_M) (pc : Nat) (ls : av_L) (st : List Value) (w : av_W) (r : Option Value) (w2 : av_W), ¬ M.2.2.2.2.1 = 99 → w.1 = 66 → w2.1 = 66 → arun f M pc ls st w = some (r, w2) → arun f M pc (rL ls) (st.map rv) (rW w) = some (r.map rv, rW w2) := by
  intro f
  induction f with
  | zero =>
    intro M pc ls st w r w2 hM hw hw2 h
    cases h
  | succ f ih =>
    intro M pc ls st w r w2 hM hw hw2 h
    unfold arun at h ⊢
    split at h
    case h_2 => cases h
    case h_1 hd =>
    try rw [hd]
    try dsimp only
    split at h
    case h_1 hr =>
      cases h
      rw [av_ret_rl hr]
    case h_2 hr =>
    rw [av_ret_rn hr]
    try dsimp only
    split at h
    case h_1 hi =>
      rw [av_inv_rl hi]
      try dsimp only
      split at h
      case isFalse => cases h
      case isTrue h0 =>
      rw [if_pos ⟨av_rcv_rl hw h0.1, by rw [av_ents_rl]; unfold rL; rw [List.length_map]; exact h0.2⟩]
      split at h
      case h_2 => cases h
      case h_1 r2 w3 h3 =>
      split at h
      case isFalse => cases h
      case isTrue h4 =>
      have m1 := (av_mk _ _ _ _ _ _ _ _ h3).1
      have m2 := (av_mk _ _ _ _ _ _ _ _ h).1
      have hw3 := Nat.le_antisymm (hw2 ▸ m2) (hw ▸ m1)
      have q := ih _ _ _ _ _ _ _ (av_inv_own hM hi) hw hw3 h3
      rw [av_ent_rl]
      have q2 : arun f _ 0 (rL (av_ent _ _)) [] (rW w) = _ := q
      rw [q2]
      dsimp only
      have hb : ∀ {l : av_L} {rs : List Value} {wa wb : av_W}, wb.1 = wa.1 → av_back l rs wa wb = true := fun e => by
        unfold av_back
        rw [e]
        simp
      have hb2 : (rW w3).1 = (rW w).1 := hw3.trans hw.symm
      rw [if_pos (hb hb2)]
      have q3 := ih _ _ _ _ _ _ _ hM hw3 hw2 h
      rw [List.map_append] at q3
      have e3 : ∀ o : Option Value, (o.map rv).toList = o.toList.map rv := fun o => by cases o <;> rfl
      rw [e3]
      exact q3
    case h_2 hi =>
      rw [av_inv_rn hi]
      try dsimp only
      split at h
      case h_2 => cases h
      case h_1 hs =>
      have m1 := (av_step_mk hs).1
      have m2 := (av_mk _ _ _ _ _ _ _ _ h).1
      have hw3 := Nat.le_antisymm (hw2 ▸ m2) (hw ▸ m1)
      rw [av_step_rl hM hw (hw3.trans hw.symm) hs]
      exact ih _ _ _ _ _ _ _ hM hw3 hw2 h
end AVR
theorem cl_rl {M : av_M} {args : List Value} {w : av_W} {P : Option Value → av_W → Prop} (hM : ¬ M.2.2.2.2.1 = 99) (hw : w.1 = 66) (h : cl M args (rW w) P) (hP : ∀ r w2, P r w2 → w2.1 = 66) : cl M (args.map rv) w (fun r' w' => ∃ r0, P r0 (rW w') ∧ r' = r0.map rv) := by
  obtain ⟨f, r, w2, h1, h2⟩ := h
  have q := arun_rl f M 0 _ [] (rW w) r w2 hM hw (hP _ _ h2) h1
  rw [← av_ent_rl, rW_rW] at q
  exact ⟨f, r.map rv, rW w2, q, r, by rw [rW_rW]; exact h2, rfl⟩
