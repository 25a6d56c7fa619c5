/-! ===== the machine is sound, 3: returns, calls, whole runs ===== -/
def av_Pc (D : va_G) (kk : Nat → ClassId) (ad : Nat → Nat) (w : av_W) (sz : Nat) (h99 : Prop) (U : State) : Prop := U.heap.size = sz ∧ va_P D vwCl (av_cW ad kk w) U.heap ∧ av_K D kk U ∧ va_D (fun _ => True) (av_cW ad kk w) ∧ (h99 → ∃ (t L : Nat) (xs : Nat → Int32), w.2.2 av_scr = .inl (t, L, .inl xs) ∧ va_X (ad av_scr) L xs U U.heap ∧ ad av_scr < sz ∧ ¬ va_A (av_cW ad kk w) sz (ad av_scr))
def av_Qc (D : va_G) (kk : Nat → ClassId) (ad : Nat → Nat) (w w2 : av_W) (r : Option Value) (A : Nat → Prop) : Array Value → State → Outcome → State → Prop := fun _ st oc t =>
  (∃ ad2 : Nat → Nat, av_agr w.1 ad ad2 ∧ (w2.1 = w.1 → ad2 = ad) ∧ oc = .returned (r.map (av_cv ad2)) ∧ va_P D vwCl (av_cW ad2 kk w2) t.heap ∧ va_D A (av_cW ad2 kk w2)) ∧ va_F A st t
def av_rm (M : av_M) (mc ms : Nat) : Room := { frames := M.2.2.2.2.2.1, cells := mc, slots := ms, locals := 35 * M.2.2.2.2.2.1 }
theorem av_mo : ∀ (f : Nat) (M : av_M) (pc : Nat) (ls : av_L) (st : List Value) (w : av_W) (r : Option Value) (w2 : av_W), arun f M pc ls st w = some (r, w2) → w.1 ≤ w2.1 ∧ w.2.1 ≤ w2.2.1 := by
  intro f
  induction f with
  | zero =>
    intro M pc ls st w r w2 h
    cases h
  | succ f ih =>
    intro M pc ls st w r w2 h
    unfold arun at h
    split at h
    case h_2 => cases h
    case h_1 =>
    split at h
    case h_1 =>
      cases h
      exact ⟨Nat.le_refl _, Nat.le_refl _⟩
    case h_2 =>
    split at h
    case h_1 =>
      split at h
      case isFalse => cases h
      case isTrue =>
      split at h
      case h_2 => cases h
      case h_1 =>
      rename_i r2 w3 h3
      split at h
      case isFalse => cases h
      case isTrue =>
      have q1 := ih _ _ _ _ _ _ _ h3
      have q2 := ih _ _ _ _ _ _ _ h
      exact ⟨Nat.le_trans q1.1 q2.1, Nat.le_trans q1.2 q2.2⟩
    case h_2 =>
      split at h
      case h_2 => cases h
      case h_1 =>
      rename_i hs
      have q1 := av_step_mo hs
      have q2 := ih _ _ _ _ _ _ _ h
      exact ⟨Nat.le_trans q1.1 q2.1, Nat.le_trans q1.2 q2.2⟩
theorem av_sc : ∀ (f : Nat) (M : av_M) (pc : Nat) (ls : av_L) (st : List Value) (w : av_W) (r : Option Value) (w2 : av_W), w.1 ≤ 1000 → arun f M pc ls st w = some (r, w2) → w2.1 ≤ 1000 ∧ w2.2.2 av_scr = w.2.2 av_scr := by
  intro f
  induction f with
  | zero =>
    intro M pc ls st w r w2 hw h
    cases h
  | succ f ih =>
    intro M pc ls st w r w2 hw h
    unfold arun at h
    split at h
    case h_2 => cases h
    case h_1 =>
    split at h
    case h_1 =>
      cases h
      exact ⟨hw, rfl⟩
    case h_2 =>
    split at h
    case h_1 =>
      split at h
      case isFalse => cases h
      case isTrue =>
      split at h
      case h_2 => cases h
      case h_1 =>
      rename_i r2 w3 h3
      split at h
      case isFalse => cases h
      case isTrue =>
      have q1 := ih _ _ _ _ _ _ _ hw h3
      have q2 := ih _ _ _ _ _ _ _ q1.1 h
      exact ⟨q2.1, q2.2.trans q1.2⟩
    case h_2 =>
      split at h
      case h_2 => cases h
      case h_1 =>
      rename_i hs
      have q1 := av_step_sc hw hs
      have q2 := ih _ _ _ _ _ _ _ q1.1 h
      exact ⟨q2.1, q2.2.trans q1.2⟩
/-- the arguments as locals -/
theorem av_ents_at (ad : Nat → Nat) : ∀ (vs : List Value) (o i : Nat) (v : Value), (av_ents vs)[i]? = some (some v) → (o + i, av_cv ad v) ∈ lv_args o (vs.map (av_cv ad)) := by
  intro vs
  induction vs with
  | nil =>
    intro o i v h
    simp [av_ents] at h
  | cons u vs ih =>
    intro o i v h
    simp only [List.map_cons, lv_args, av_cat]
    unfold av_ents at h
    by_cases hu : u.category = 2
    · rw [if_pos hu] at h
      rw [if_pos hu]
      match i, h with
      | 0, h =>
        cases h
        exact List.mem_cons_self
      | 1, h => cases h
      | i + 2, h =>
        have h1 := ih (o + 2) i v h
        rw [show o + 2 + i = o + (i + 2) by omega] at h1
        exact List.mem_cons_of_mem _ h1
    · rw [if_neg hu] at h
      rw [if_neg hu]
      match i, h with
      | 0, h =>
        cases h
        exact List.mem_cons_self
      | i + 1, h =>
        have h1 := ih (o + 1) i v h
        rw [show o + 1 + i = o + (i + 1) by omega] at h1
        exact List.mem_cons_of_mem _ h1
theorem av_ents_sl (ad : Nat → Nat) : ∀ vs : List Value, (lg_sl (vs.map (av_cv ad))).length = (av_ents vs).length := by
  intro vs
  induction vs with
  | nil => rfl
  | cons u vs ih =>
    unfold lg_sl at ih ⊢
    rw [List.map_cons, List.flatMap_cons, List.length_append, ih]
    simp only [av_cat]
    by_cases hu : u.category = 2
    · simp [hu, av_ents]
      omega
    · simp [hu, av_ents]
      omega
theorem av_ent_LH (ad : Nat → Nat) (vs : List Value) (n : Nat) (h : (av_ents vs).length ≤ n) : av_LH ad ((lg_sl (vs.map (av_cv ad)) ++ List.replicate (n - (lg_sl (vs.map (av_cv ad))).length) Slot.unset).toArray) n (av_ent vs n) := by
  have h1 := lv_entry (vs.map (av_cv ad)) (n := n) (by rw [av_ents_sl]; exact h)
  refine ⟨by simp [av_ent]; omega, h1.1, h1.2.1, ?_⟩
  rintro ⟨i, x⟩ hq
  obtain ⟨v, hv, rfl⟩ := av_as_mem.mp hq
  have hv2 : (av_ents vs)[i]? = some (some v) := by
    unfold av_ent at hv
    by_cases hi : i < (av_ents vs).length
    · rwa [List.getElem?_append_left hi] at hv
    · rw [List.getElem?_append_right (by omega)] at hv
      have := List.mem_of_getElem? hv
      rw [List.mem_replicate] at this
      cases this.2
  have h2 := av_ents_at ad vs 0 i v hv2
  rw [Nat.zero_add] at h2
  exact h1.2.2 _ h2
section AVS3
variable {p : Program} {l : Launch} {e : Env} {R : Room} {s : State} {m : MethodId} {args : Array Value} {below : List Frame} {meth : Method} {c : Code} {cells slots : Nat} {Q : State → Prop}
variable {D : va_G} {kk : Nat → ClassId} {A : Nat → Prop} {ad : Nat → Nat} {len pc pc2 : Nat} {ls ls2 : av_L} {st st2 : List Value} {w w2 wF : av_W}
theorem av_ret_ok {M : av_M} (Fx : av_Fx p m c s args D kk meth M) (hlocks : meth.locks = false) (hret : meth.sig.returnType = M.2.2.2.1) {i : Instr} (hd : decode M.2.1 pc = .ok (i, len)) {r : Option Value} (hs : av_ret M i len st = some r) {Qc : Array Value → State → Outcome → State → Prop} {free : Addr → Prop} {mc ms : Nat} (hmc : cells ≤ mc ∧ slots ≤ ms)
    (hq : ∀ (H : Heap) (locs : List Loc) (t : State), va_P D vwCl (av_cW ad kk w) H → va_D A (av_cW ad kk w) → va_S A s.heap H locs → t.heap = H → s.WarmedH t.vm → Qc args s (.returned (r.map (av_cv ad))) t) (hf : ∀ q, A q → free q) :
    av_go p l e R s m args below meth c D kk A ad M.2.2.1 cells slots (MQ below Qc args s mc ms free) pc ls st w := by
  obtain ⟨hx, hb, hml, hown, hts, hK, hnm⟩ := Fx
  intro H locs LS X
  refine W.widen (k := mc) (n := ms) hmc.1 hmc.2 ?_
  have hq2 : ∀ t : State, t.heap = H → s.WarmedH t.vm → Qc args s (.returned (r.map (av_cv ad))) t := fun t h1 h2 => hq H locs t X.1 X.2.1 X.2.2.1 h1 h2
  have hf2 : ∀ q ∈ locs, free q.base := fun q h => hf _ (X.2.2.1.2.2 q h)
  unfold av_ret at hs
  split at hs
  · split at hs
    case h_2 => cases hs
    case h_1 =>
    rename_i v
    split at hs
    case h_2 => cases hs
    case h_1 =>
    rename_i ty hty
    split at hs
    case isFalse => cases hs
    case isTrue h0 =>
    obtain ⟨rfl, hfit⟩ := h0
    cases hs
    exact W.zret hx hb (ty := ty) (by rw [hret, hty]) (av_fit_ok ad hfit).1 hq2 hf2 hd hlocks
  · split at hs
    case h_2 => cases hs
    case h_1 =>
    split at hs
    case isFalse => cases hs
    case isTrue h0 =>
    obtain ⟨rfl, hty⟩ := h0
    cases hs
    exact W.vret hx hb (by rw [hret, hty]) hq2 hf2 hd hlocks
  · split at hs
    case h_2 => cases hs
    case h_1 =>
    rename_i a
    split at hs
    case h_2 => cases hs
    case h_1 =>
    rename_i ty hty
    split at hs
    case isFalse => cases hs
    case isTrue h0 =>
    obtain ⟨rfl, hfit⟩ := h0
    cases hs
    refine W.aret hx hb (rt := ty) (by rw [hret, hty]) ?_ (Or.inr ⟨_, rfl⟩) hq2 hf2 hd hlocks
    unfold av_fit at hfit
    split at hfit
    · rename_i hz
      cases hz
    · rename_i hz
      cases hz
    · rename_i hz
      cases hz
    · exact Or.inl ⟨_, rfl⟩
    · exact Or.inr ⟨_, rfl⟩
    · cases hfit
  · cases hs
/-- behind a call -/
theorem av_after {H : Heap} {locs : List Loc} {LS : Array Slot} {nL mc ms : Nat} {st0 rest : List Value} {aargs : Array Value} {r : Option Value}
    (hr : va_Run p l e R s m args below meth c H locs cells slots mc ms (F0 m pc LS st0) (rest.map (av_cv ad)) (av_Qc D kk ad w w2 r (va_A (av_cW ad kk w) H.size) aargs) (va_A (av_cW ad kk w) H.size)) (X : av_St D kk A s ad w H locs LS nL ls) (hA : ∀ q, s.heap.size ≤ q → A q) (hback : av_back ls rest w w2 = true)
    (k : ∀ ad2 : Nat → Nat, av_agr w.1 ad ad2 → (w2.1 = w.1 → ad2 = ad) → av_go p l e R s m args below meth c D kk A ad2 nL (cells + mc) (slots + ms) Q (pc + 3) ls (r.toList ++ rest) w2) : W p l e R s m args below meth c H locs cells slots Q (F0 m pc LS st0) := by
  have hfree := va_free (wc := av_cW ad kk w) X.2.1 X.2.2.1 hA (List.range (av_cW ad kk w).length) (by
    apply List.ext_getElem?
    intro i
    by_cases hi : i < (av_cW ad kk w).length
    · simp [hi]
    · simp [hi])
  intro T hT XX
  obtain ⟨v, st₀, t, T', L, h0, X', hL, e1, e2, ⟨⟨ad2, ha, hb, hv, hP, hD⟩, hz, hk⟩, st⟩ := hr T hT XX
  cases hv
  rw [h0] at hz hk
  have hLH : av_LH ad2 LS nL ls ∧ rest.map (av_cv ad2) = rest.map (av_cv ad) := by
    unfold av_back at hback
    simp only [Bool.or_eq_true, beq_iff_eq, Bool.and_eq_true] at hback
    rcases hback with h | h
    · rw [hb h]
      exact ⟨X.2.2.2, rfl⟩
    · exact ⟨X.2.2.2.ext ha h.1, av_cvs_ext ha h.2⟩
  have hS2 : va_S A s.heap T'.heap (locs ++ L) := by
    refine ⟨Nat.le_trans X.2.2.1.1 (by rw [e1]; exact hz), fun q h1 h2 => ?_, fun q hq => ?_⟩
    · rw [e1, hk q (Nat.lt_of_lt_of_le h1 X.2.2.1.1) (fun z => h2 (hfree q z))]
      exact X.2.2.1.2.1 q h1 h2
    · rcases List.mem_append.mp hq with h | h
      · exact X.2.2.1.2.2 q h
      · exact hfree _ (hL q h)
  have hD2 : va_D A (av_cW ad2 kk w2) := ⟨hD.1, fun k q h => hfree _ (hD.2 k q h)⟩
  obtain ⟨t2, a1, b1⟩ := k ad2 ha hb T'.heap (locs ++ L) LS ⟨by rw [e1]; exact hP, hD2, hS2, hLH.1⟩ T' rfl X'
  refine ⟨t2, st t2 ?_, b1⟩
  rw [List.map_append, hLH.2] at a1
  have e3 : (Option.map (av_cv ad2) r).toList = List.map (av_cv ad2) r.toList := by cases r <;> rfl
  rw [e3]
  exact a1
end AVS3
