/-! ===== what the tables say of the tables of the machine ===== -/
/-- the words that a method is given: those that stay -/
def av_ws : List Cond := lw_tbl.filter goodWord
def av_ns : List Cond := lw_tbl.filter (fun w => match w with | .methodLinkNest _ _ _ _ => true | .fieldLinkNest _ _ _ _ _ _ => true | .arrayOver (.object _) => true | _ => false)
def av_inT (p : Nat) (w : Cond) : Bool := decide (lw_tbl[p]? = some w) && goodWord w
def av_inN (p : Nat) (w : Cond) : Bool := decide (lw_tbl[p]? = some w) && (match w with | .methodLinkNest _ _ _ _ => true | .fieldLinkNest _ _ _ _ _ _ => true | .arrayOver (.object _) => true | _ => false)
theorem av_inT_ws {p : Nat} {w : Cond} (h : av_inT p w = true) : w ∈ av_ws := by
  simp only [av_inT, Bool.and_eq_true, decide_eq_true_eq] at h
  exact List.mem_filter.mpr ⟨List.mem_of_getElem? h.1, h.2⟩
theorem av_inN_ns {p : Nat} {w : Cond} (h : av_inN p w = true) : w ∈ av_ns := by
  simp only [av_inN, Bool.and_eq_true, decide_eq_true_eq] at h
  exact List.mem_filter.mpr ⟨List.mem_of_getElem? h.1, h.2⟩
theorem av_code_ws : ∀ M ∈ av_MT, Cond.code M.1 M.2.1 M.2.2.1 M.2.2.2.1 ∈ av_ws := fun M h => List.mem_filter.mpr ⟨av_code_ok M h, rfl⟩
def av_okM (q : av_M × Nat) : Bool :=
  plainName q.1.1.cls && (q.1.1.cls == av_R q.1.2.2.2.2.1) && av_inT q.2 (Cond.initialized q.1.1.cls) && decide (q.1.1.cls ≠ "java/lang/invoke/MethodHandle") && decide (q.1.1.cls ≠ "java/lang/invoke/VarHandle") &&
  decide ((parseMethodDescriptor q.1.1.desc).map (fun d => d.parameters.length) = some q.1.2.2.2.2.2.2) && decide (q.1.2.2.1 ≤ 16) && (decide (q.1.2.2.2.2.1 < 5) || q.1.2.2.2.2.1 == 99)
set_option maxRecDepth 100000 in
theorem av_MT_ok : (av_MT.zip av_inip).all av_okM = true := by decide +kernel
theorem av_MT_len : av_MT.length = av_inip.length := by decide +kernel
def av_okR (q : Nat × Nat × Nat × Nat × String × Nat × Nat × Nat) : Bool :=
  match av_MT[q.2.2.2.1]? with
  | none => false
  | some M => (match q.2.2.1 with
    | 0 => av_inT q.2.2.2.2.2.1 (Cond.methodLink (av_R q.1) q.2.1 M.1) && av_inT q.2.2.2.2.2.2.1 (Cond.instanceMethod M.1) && av_inT q.2.2.2.2.2.2.2 (Cond.selects M.1.cls M.1 M.1)
    | 1 => av_inN q.2.2.2.2.2.1 (Cond.methodLinkNest (av_R q.1) q.2.1 M.1 q.2.2.2.2.1) && av_inT q.2.2.2.2.2.2.1 (Cond.instanceMethod M.1) && av_inT q.2.2.2.2.2.2.2 (Cond.selects M.1.cls M.1 M.1)
    | 2 => av_inT q.2.2.2.2.2.1 (Cond.methodLink (av_R q.1) q.2.1 M.1) && av_inT q.2.2.2.2.2.2.1 (Cond.static M.1)
    | 3 => av_inN q.2.2.2.2.2.1 (Cond.methodLinkNest (av_R q.1) q.2.1 M.1 q.2.2.2.2.1) && av_inT q.2.2.2.2.2.2.1 (Cond.static M.1)
    | 4 => av_inT q.2.2.2.2.2.1 (Cond.methodLink (av_R q.1) q.2.1 M.1) && av_inT q.2.2.2.2.2.2.1 (Cond.instanceMethod M.1) && (M.1.name == "<init>") && decide (M.2.2.2.1 = none)
    | 5 => av_inN q.2.2.2.2.2.1 (Cond.methodLinkNest (av_R q.1) q.2.1 M.1 q.2.2.2.2.1) && av_inT q.2.2.2.2.2.2.1 (Cond.instanceMethod M.1) && (M.1.name == "<init>") && decide (M.2.2.2.1 = none)
    | _ => false)
set_option maxRecDepth 100000 in
theorem av_resL_ok : av_resL.all av_okR = true := by decide +kernel
def av_okF (q : Nat × Nat × Nat × Nat × String × Nat) : Bool :=
  decide (q.2.2.1 < 5) && decide (q.2.2.2.1 < av_N q.2.2.1) && (if q.2.2.2.2.1 = "" then av_inT q.2.2.2.2.2 (Cond.fieldLink (av_R q.1) q.2.1 (av_T q.2.2.1 q.2.2.2.1).1 (av_T q.2.2.1 q.2.2.2.1).2.1 (av_T q.2.2.1 q.2.2.2.1).2.2.1) else av_inN q.2.2.2.2.2 (Cond.fieldLinkNest (av_R q.1) q.2.1 (av_T q.2.2.1 q.2.2.2.1).1 (av_T q.2.2.1 q.2.2.2.1).2.1 (av_T q.2.2.1 q.2.2.2.1).2.2.1 q.2.2.2.2.1))
set_option maxRecDepth 100000 in
theorem av_fldL_ok : av_fldL.all av_okF = true := by decide +kernel
def av_inA (w : Cond) : Bool := decide (w ∈ lw_tbl) && goodWord w
theorem av_inA_ws {w : Cond} (h : av_inA w = true) : w ∈ av_ws := by
  simp only [av_inA, Bool.and_eq_true, decide_eq_true_eq] at h
  exact List.mem_filter.mpr h
set_option maxRecDepth 100000 in
theorem av_clsL_ok : av_clsL.all (fun q => decide (q.2.2 < 5) && av_inA (Cond.classLink (av_R q.1) q.2.1 (av_R q.2.2)) && av_inA (Cond.instantiable (av_R q.2.2) (av_N q.2.2)) && av_inA (Cond.initialized (av_R q.2.2))) = true := by decide +kernel
set_option maxRecDepth 100000 in
theorem av_kiL_ok : av_kiL.all (fun q => av_inA (Cond.constant (av_R q.1) q.2.1 q.2.2)) = true := by decide +kernel
set_option maxRecDepth 100000 in
theorem av_klL_ok : av_klL.all (fun q => av_inA (Cond.constantLong (av_R q.1) q.2.1 q.2.2)) = true := by decide +kernel
set_option maxRecDepth 100000 in
theorem av_objL_ok : av_objL.all (fun q => av_inA (Cond.methodLink (av_R q.1) q.2 Jvm.Lib.objectInit)) = true := by decide +kernel
set_option maxRecDepth 100000 in
theorem av_obj_ok : av_inA (Cond.instanceMethod Jvm.Lib.objectInit) = true ∧ av_inA (Cond.code Jvm.Lib.objectInit ⟨#[0xb1]⟩ 1 none) = true := by decide +kernel
set_option maxRecDepth 100000 in
theorem av_mmL_ok : av_mmL.all (fun q => av_inT q.2.2.2.1 (Cond.methodLink (av_R q.1) q.2.1 (if q.2.2.1 then Lib.Math.max.name else Lib.Math.min.name)) && av_inT q.2.2.2.2.1 (Cond.static (if q.2.2.1 then Lib.Math.max.name else Lib.Math.min.name)) && av_inT q.2.2.2.2.2.1 (Cond.code (if q.2.2.1 then Lib.Math.max.name else Lib.Math.min.name) (if q.2.2.1 then Lib.Math.max.code else Lib.Math.min.code) 2 (some .int)) && av_inT q.2.2.2.2.2.2 (Cond.initialized "java/lang/Math")) = true := by decide +kernel
set_option maxRecDepth 100000 in
theorem av_arr_ok : av_inA (Cond.arrayClass .int) = true ∧ av_inA (Cond.arrayClass .char) = true ∧ Cond.arrayOver (.object (av_R 0)) ∈ av_ns := by decide +kernel
set_option maxRecDepth 100000 in
theorem av_lays0 : ∀ ci, ci < 5 → (u_ws (av_R ci) (av_T ci) (av_N ci)).all av_inA = true := by decide +kernel
theorem av_lays (ci : Nat) (h : ci < 5) : ∀ w ∈ u_ws (av_R ci) (av_T ci) (av_N ci), w ∈ av_ws := fun w hw => av_inA_ws (List.all_eq_true.mp (av_lays0 ci h) w hw)
theorem av_cl : ∀ ci, ci < 5 → vwCl[ci]? = some (av_R ci, av_T ci, av_N ci) := by
  intro ci h
  rcases ci with _ | _ | _ | _ | _ | ci
  · rfl
  · rfl
  · rfl
  · rfl
  · rfl
  · omega
theorem av_tys : ∀ ci, ci < 5 → ∀ k, k < av_N ci → parseFieldDescriptor (av_T ci k).2.2.1 = some (av_ty ci k) := by decide +kernel
theorem av_nms : ∀ ci, ci < 5 → ∀ a, a < av_N ci → ∀ b, b < av_N ci → a ≠ b → (av_T ci a).2.1 ≠ (av_T ci b).2.1 := by decide +kernel
theorem av_dfs : ∀ ci, ci < 5 → ∀ k, k < av_N ci → defaultValue (av_ty ci k) = vp_V (av_df ci) k := by decide +kernel
theorem av_dcl : ∀ ci, ci < 5 → ∀ k, k < av_N ci → (av_T ci k).1 = av_R ci := by decide +kernel
theorem av_dfl : ∀ ci, ci < 5 → (av_df ci).length = av_N ci := by decide +kernel

theorem av_resL_99 : av_resL.all (fun q => match av_MT[q.2.2.2.1]? with | some M => decide (M.2.2.2.2.1 < 5) || (q.1 == 99 && q.2.2.1 == 2 && M.2.2.2.2.1 == 99) | none => true) = true := by decide +kernel
theorem av_res_99 {own i k : Nat} {M : av_M} (hf : av_res own i = some (k, M)) : M.2.2.2.2.1 < 5 ∨ (own = 99 ∧ k = 2 ∧ M.2.2.2.2.1 = 99) := by
  unfold av_res at hf
  rw [Option.bind_eq_some_iff] at hf
  obtain ⟨q, h1, h2⟩ := hf
  rw [Option.map_eq_some_iff] at h2
  obtain ⟨M2, h3, h4⟩ := h2
  have h0 := List.find?_some h1
  cases h4
  have h5 := List.all_eq_true.mp av_resL_99 q (List.mem_of_find?_eq_some h1)
  rw [h3] at h5
  simp only [Bool.or_eq_true, Bool.and_eq_true, decide_eq_true_eq, beq_iff_eq] at h5 h0
  rcases h5 with h5 | h5
  · exact Or.inl h5
  · exact Or.inr ⟨h0.1 ▸ h5.1.1, h5.1.2, h5.2⟩
