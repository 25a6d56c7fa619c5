/-! THE CLAIM OUT OF ONE WALK OF THE LAW'S BODY. Your part is whole_start (and what it stands on); all else here is the same for every law, but numbers. -/
def lw_P (b : Addr) (xs : List Int32) (args : Array Value) (s : State) : Prop := args = #[.ref b] ∧ s.IntsAt b xs ∧ xs.length ≤ 260 ∧ (Jvm.Cond.and given_1 narrow_1).before args s = true
def lw_Q (_ : Array Value) (s : State) (o : Outcome) (t : State) : Prop := o = .returned (some (.int 1)) ∧ Framed s o t [] 600000 7302250
def lw_Z (below : List Frame) (a : Array Value) (s : State) : State → Prop := fun t => ∃ o, t.status = .running ∧ Ended t below o ∧ lw_Q a s o t
/-- the law's own end, with 1 on the stack, nothing written that was there before, its room as the claim has it -/
theorem lw_ret {p : Program} {l : Launch} {e : Env} {s : State} {m : MethodId} {below : List Frame} {meth : Method} {c : Code} {b : Nat} (hx : p.tables.exec = Jvm.exec) (hb : c.code = code) (hr : meth.sig.returnType = ret) (hlocks : meth.locks = false) {pc : Nat} {H : Heap} {ls : Array Slot} (hdg : decode code pc = .ok (.ireturn, 1)) : W p l e room_1 s m #[Value.ref b] below meth c H [] 600000 7302250 (lw_Z below #[Value.ref b] s) (F0 m pc ls [.int 1]) := by
  intro T hT X
  obtain ⟨fs, hret, hrun, hended, hW, hframe⟩ := X.leave (v := some (.int 1)) (hlocks := hlocks) (fun h => by rw [hr] at h; cases h)
  have hmeth' : T.vm.method? m = some meth := X.method'
  refine ⟨T.setFrames fs, ?_, .returned (some (.int 1)), hrun, hended, rfl, ⟨_, rfl⟩, hW, hframe⟩
  jvm_step X.here [X.here.top, hx, hb, hdg, hmeth', hr, ret, narrow_b1]
  (try refine ⟨rfl, ?_⟩); (try refine ⟨rfl, ?_⟩)
  first | (intro acts; rw [hret _ acts rfl rfl rfl]) | rw [hret _ _ rfl rfl rfl]
  exact Steps.refl _
/-- what holds at the law's entry: the machine, the code, the tables' words (any of lw_tbl by 'hts w (by decide +kernel)'), the script of L ints xs at the cell b, what the Statement gives of the start (any of its parts by flat_of_before) -/
def lw_At (p : Program) (s : State) (m : MethodId) (meth : Method) (c : Code) (b L : Nat) (xs : Nat → Int32) : Prop :=
  p.tables.exec = Jvm.exec ∧ c.code = code ∧ meth.sig.returnType = ret ∧ c.maxLocals = 5 ∧ s.vm.findClass R_law = some m.cls ∧ (∀ w ∈ lw_tbl, w.before #[Value.ref b] s = true) ∧ va_X b L xs s s.heap ∧ b < s.heap.size ∧ meth.locks = false ∧ (Jvm.Cond.and given_1 narrow_1).before #[Value.ref b] s = true
/-! ===== from the law's entry: a run of the machine is a walk of the law ===== -/
theorem av_inst : ∀ ci, ci < 5 → av_inA (Cond.instantiable (av_R ci) (av_N ci)) = true := by decide +kernel
theorem av_ns_tbl {w : Cond} (h : w ∈ av_ns) : w ∈ lw_tbl := (List.mem_filter.mp h).1
theorem av_ws_tbl {w : Cond} (h : w ∈ av_ws) : w ∈ lw_tbl := (List.mem_filter.mp h).1
theorem av_ns_tabs {w : Cond} (h : w ∈ av_ns) {a : Array Value} {s : State} (hb : w.before a s = true) : va_Nw w s := by
  rcases av_ns_shape h with ⟨a, i, x, h, rfl⟩ | ⟨a, i, b, n, d, h, rfl⟩ | ⟨C, rfl⟩
  · exact va_Nw.of rfl hb
  · exact va_Nw.of rfl hb
  · exact va_AO.of hb
/-- the machine's start: no cell, the script -/
def av_w0 (L : Nat) (xs : Nat → Int32) : av_W := (0, 0, fun k => if k = av_scr then .inl (3, L, .inl xs) else .inr (0, []))
theorem av_w0_scr (L : Nat) (xs : Nat → Int32) : (av_w0 L xs).2.2 av_scr = .inl (3, L, .inl xs) := by simp [av_w0]
def av_l0 : av_L := [some (.ref av_scr), none, none, none, none]
theorem av_arrT {s : State} {ty : FieldType} (hc : ∀ C, ty ≠ .object C) {a : Array Value} (h : (Cond.arrayClass ty).before a s = true) : ∃ k : ClassId, ArrOfT s k ty ∧ va_RA s k ty := by
  obtain ⟨cA, kA, comp, h1, h2, h3⟩ := Cond.arrayClass_spec h
  refine ⟨cA, fun n z => ⟨fun k h => (by cases h), kA, h2, comp, h3⟩, ?_⟩
  cases ty with
  | object C => exact absurd rfl (hc C)
  | _ => exact h1
theorem av_arrR {s : State} {C : String} (h : va_AO C s) : ∃ k : ClassId, ArrOfT s k (.object C) ∧ va_RA s k (.object C) := by
  obtain ⟨comp, cA, kA, h1, h2, h3, h4, h5⟩ := Cond.arrayOver_spec (va_AO.use (A := #[]) h)
  exact ⟨cA, fun n z => ⟨fun k h => (by cases h), kA, h3, comp, h4⟩, kA, comp, h3, h4, h1, h5⟩
theorem av_start (hpure : ∀ (L : Nat) (xs : Nat → Int32), L ≤ 260 → ∃ (f : Nat) (wF : av_W), arun f ML_law 0 av_l0 [] (av_w0 L xs) = some (some (.int 1), wF) ∧ wF.1 ≤ 600000 ∧ wF.2.1 ≤ 7302250)
    {p : Program} {e : Env} {s : State} {m : MethodId} {below : List Frame} {meth : Method} {c : Code} (l : Launch) (hflags : l.flags = flags0) {b L : Nat} {xs : Nat → Int32} (hL : L ≤ 260) (C0 : lw_At p s m meth c b L xs) : W p l e room_1 s m #[Value.ref b] below meth c s.heap [] 0 0 (lw_Z below #[Value.ref b] s) (entryFrame m ([Value.ref b] : List Value).toArray 5) := by
  obtain ⟨hx, hb, hr, hml, hown, hts, hX, hbl, hlocks, hgv⟩ := id C0
  obtain ⟨f, wF, hrun, hF1, hF2⟩ := hpure L xs hL
  have htw : ∀ w ∈ av_ws, w.before #[Value.ref b] s = true := fun w h => hts w (av_ws_tbl h)
  have hns : ∀ w ∈ av_ns, va_Nw w s := fun w h => av_ns_tabs h (hts w (av_ns_tbl h))
  have hkn : ∀ ci, ∃ (cC : ClassId) (iS : Nat → Nat), ci < 5 → u_Kn s (av_R ci) (av_T ci) (av_N ci) cC iS := by
    intro ci
    by_cases h : ci < 5
    · obtain ⟨cC, iS, hk⟩ := u_known (n := av_N ci) htw (av_lays ci h) (htw _ (av_inA_ws (av_inst ci h)))
      exact ⟨cC, iS, fun _ => hk⟩
    · exact ⟨0, fun _ => 0, fun q => absurd q h⟩
  obtain ⟨k0, hk0⟩ := av_arrT (ty := .int) (fun C h => by cases h) (htw _ (av_inA_ws av_arr_ok.1))
  obtain ⟨k1, hk1⟩ := av_arrT (ty := .char) (fun C h => by cases h) (htw _ (av_inA_ws av_arr_ok.2.1))
  obtain ⟨k2, hk2⟩ := av_arrR (C := av_R 0) (hns _ av_arr_ok.2.2)
  have hK : av_K (fun ci => Classical.choose (hkn ci), fun ci => Classical.choose (Classical.choose_spec (hkn ci))) (fun t => match t with | 0 => k0 | 1 => k1 | _ => k2) s := by
    refine ⟨⟨fun ci q hq => ?_, fun t q hq => ?_⟩, hns⟩
    · by_cases h : ci < 5
      · rw [av_cl ci h] at hq
        cases hq
        exact Classical.choose_spec (Classical.choose_spec (hkn ci)) h
      · have : vwCl[ci]? = none := List.getElem?_eq_none (Nat.le_of_not_lt h)
        rw [this] at hq
        cases hq
    · match t, hq with
      | 0, hq => cases hq; exact hk0
      | 1, hq => cases hq; exact hk1
      | 2, hq => cases hq; exact hk2
  have hl := av_ent_LH (fun _ => b) [.ref av_scr] 5 (by decide)
  rw [lg_entry_eq]
  have hgo := av_sound l f ML_law 0 av_l0 [] (av_w0 L xs) _ wF hrun p e room_1 s m #[Value.ref b] below meth c
    (fun ci => Classical.choose (hkn ci), fun ci => Classical.choose (Classical.choose_spec (hkn ci))) (fun t => match t with | 0 => k0 | 1 => k1 | _ => k2) (fun q => s.heap.size ≤ q) (fun _ => b) 0 0 600000 7302250 (lw_Z below #[Value.ref b] s)
    (Nat.zero_le _) ⟨hx, hb, hml, hown, htw, hK, fun h => absurd h (by decide +kernel)⟩ (fun _ => ⟨3, L, xs, av_w0_scr L xs, hX, hbl, Nat.not_le.mpr hbl⟩) (fun q h => h) ⟨by decide, by decide⟩ ⟨by show 0 + (wF.1 - 0) ≤ _; omega, by show 0 + (wF.2.1 - 0) ≤ _; omega⟩ ⟨Nat.le_refl _, Nat.le_refl _⟩
    (fun ad2 pc2 len i st2 ls2 cells2 slots2 h1 h2 h3 h4 h5 => by
      intro H locs LS X
      refine va_forget (fun q hq => X.2.2.1.2.2 q hq) ?_
      refine W.widen (k := 600000) (n := 7302250) h5.1 h5.2 ?_
      unfold av_ret at h4
      split at h4
      · split at h4
        case h_2 => cases h4
        case h_1 =>
        rename_i v
        split at h4
        case h_2 => cases h4
        case h_1 =>
        split at h4
        case isFalse => cases h4
        case isTrue h0 =>
        obtain ⟨rfl, -⟩ := h0
        cases h4
        exact lw_ret hx hb hr hlocks h3
      · split at h4
        case h_2 => cases h4
        case h_1 =>
        split at h4 <;> cases h4
      · split at h4
        case h_2 => cases h4
        case h_1 =>
        split at h4
        case h_2 => cases h4
        case h_1 =>
        split at h4 <;> cases h4
      · cases h4)
  refine hgo s.heap [] _ ⟨?_, ?_, va_S.rf, hl⟩
  · exact fun k q h => by simp [av_cW, av_w0] at h
  · exact ⟨fun i j p q h => by simp [av_cW, av_w0] at h, fun k q h => by simp [av_cW, av_w0] at h⟩
