/-! ===== the machine is sound: what it runs, the JVM runs ===== -/
def av_cv (ad : Nat → Nat) (v : Value) : Value := match v with
  | .ref k => .ref (ad k)
  | x => x
/-- two tables of addresses agree on the first n cells and on the script -/
def av_agr (n : Nat) (ad ad2 : Nat → Nat) : Prop := ∀ k, k < n ∨ k = av_scr → ad2 k = ad k
def av_cA (ad : Nat → Nat) (a : vp_A) : vp_A := (a.1, match a.2 with
  | .inr (.inr (.inr (.inr f))) => .inr (.inr (.inr (.inr (fun j => if j < a.1 then (f j).map ad else none))))
  | x => x)
def av_cE (ad : Nat → Nat) (kk : Nat → ClassId) (e : av_E) : va_E := match e with
  | .inl q => .inl (kk q.1, av_cA ad q.2)
  | .inr q => .inr (q.1, q.2.map (av_cv ad))
def av_cW (ad : Nat → Nat) (kk : Nat → ClassId) (w : av_W) : va_W := (List.range w.1).map (fun k => (ad k, av_cE ad kk (w.2.2 k)))
theorem av_cW_len (ad : Nat → Nat) (kk : Nat → ClassId) (w : av_W) : (av_cW ad kk w).length = w.1 := by simp [av_cW]
theorem av_cW_get {ad : Nat → Nat} {kk : Nat → ClassId} {w : av_W} {k : Nat} (h : k < w.1) : (av_cW ad kk w)[k]? = some (ad k, av_cE ad kk (w.2.2 k)) := by
  simp [av_cW, h]
theorem av_cW_out {ad : Nat → Nat} {kk : Nat → ClassId} {w : av_W} {k : Nat} (h : ¬ k < w.1) : (av_cW ad kk w)[k]? = none := by
  simp [av_cW]; omega
theorem av_cW_set {ad : Nat → Nat} {kk : Nat → ClassId} {w : av_W} {k z : Nat} {e : av_E} (h : k < w.1) : (av_cW ad kk w).set k (ad k, av_cE ad kk e) = av_cW ad kk (w.1, z, av_up w.2.2 k e) := by
  apply List.ext_getElem?
  intro j
  by_cases hj : j < w.1
  · rw [av_cW_get (w := (w.1, z, av_up w.2.2 k e)) hj]
    by_cases hk : j = k
    · subst hk
      rw [List.getElem?_set_self (by rw [av_cW_len]; exact hj)]
      simp [av_up]
    · rw [List.getElem?_set_ne (fun q => hk q.symm), av_cW_get hj]
      simp [av_up, hk]
  · rw [av_cW_out (w := (w.1, z, av_up w.2.2 k e)) hj]
    by_cases hk : j = k
    · exact absurd (hk ▸ h) hj
    · rw [List.getElem?_set_ne (fun q => hk q.symm), av_cW_out hj]
theorem av_cv_ext {ad ad2 : Nat → Nat} {n : Nat} (h : av_agr n ad ad2) {v : Value} (hv : av_wv n v = true) : av_cv ad2 v = av_cv ad v := by
  cases v with
  | ref k =>
    have hk : k < n ∨ k = av_scr := by simpa [av_wv] using hv
    simp [av_cv, h k hk]
  | _ => rfl
theorem av_cvs_ext {ad ad2 : Nat → Nat} {n : Nat} (h : av_agr n ad ad2) {vs : List Value} (hv : vs.all (av_wv n) = true) : vs.map (av_cv ad2) = vs.map (av_cv ad) := by
  apply List.map_congr_left
  intro v hv2
  exact av_cv_ext h (List.all_eq_true.mp hv v hv2)
/-- cells keep their picture under more addresses -/
theorem av_cE_ext {ad ad2 : Nat → Nat} {kk : Nat → ClassId} {n : Nat} (h : av_agr n ad ad2) {e : av_E} (he : av_we n e = true) : av_cE ad2 kk e = av_cE ad kk e := by
  match e with
  | .inr (ci, fs) =>
    simp only [av_cE]
    rw [av_cvs_ext h (by simpa [av_we] using he)]
  | .inl (t, k, .inl f) => rfl
  | .inl (t, k, .inr (.inl f)) => rfl
  | .inl (t, k, .inr (.inr (.inl f))) => rfl
  | .inl (t, k, .inr (.inr (.inr (.inl f)))) => rfl
  | .inl (t, k, .inr (.inr (.inr (.inr f)))) =>
    simp only [av_cE, av_cA]
    have hf : (fun j => if j < k then (f j).map ad2 else none) = (fun j => if j < k then (f j).map ad else none) := by
      funext j
      by_cases hj : j < k
      · rw [if_pos hj, if_pos hj]
        have h1 := List.all_eq_true.mp (by simpa only [av_we] using he) j (List.mem_range.mpr hj)
        cases hf : f j with
        | none => rfl
        | some r =>
          rw [hf] at h1
          have hr : r < n := by simpa using h1
          simp [h r (Or.inl hr)]
      · rw [if_neg hj, if_neg hj]
    rw [hf]
theorem av_cW_ext {ad ad2 : Nat → Nat} {kk : Nat → ClassId} {w : av_W} (h : av_agr w.1 ad ad2) (hw : av_ww w = true) : av_cW ad2 kk w = av_cW ad kk w := by
  unfold av_cW
  apply List.map_congr_left
  intro k hk
  have hk2 : k < w.1 := List.mem_range.mp hk
  rw [h k (Or.inl hk2), av_cE_ext h (List.all_eq_true.mp hw k hk)]
theorem av_agr_new {ad : Nat → Nat} {n q : Nat} (h : n < 1000) : av_agr n ad (fun k => if k = n then q else ad k) := fun k hk => if_neg (by unfold av_scr at hk; omega)
theorem av_cW_app {ad : Nat → Nat} {kk : Nat → ClassId} {w : av_W} {z q : Nat} {e : av_E} {e2 : va_E} (h1000 : w.1 < 1000) (hw : av_ww w = true) (he : av_cE (fun k => if k = w.1 then q else ad k) kk e = e2) : av_cW (fun k => if k = w.1 then q else ad k) kk (w.1 + 1, z, av_up w.2.2 w.1 e) = av_cW ad kk w ++ [(q, e2)] := by
  have hx : av_agr w.1 ad (fun k => if k = w.1 then q else ad k) := av_agr_new h1000
  rw [← av_cW_ext hx hw]
  unfold av_cW
  show (List.range (w.1 + 1)).map _ = _
  rw [List.range_succ, List.map_append]
  congr 1
  · apply List.map_congr_left
    intro k hk
    have hk2 : k < w.1 := List.mem_range.mp hk
    simp [av_up, Nat.ne_of_lt hk2]
  · simp [av_up, ← he]
def av_as (ad : Nat → Nat) (ls : av_L) : List (Nat × Value) := (List.range ls.length).filterMap (fun i => match ls[i]? with
  | some (some v) => some (i, av_cv ad v)
  | _ => none)
theorem av_as_mem {ad : Nat → Nat} {ls : av_L} {i : Nat} {x : Value} : (i, x) ∈ av_as ad ls ↔ ∃ v, ls[i]? = some (some v) ∧ av_cv ad v = x := by
  unfold av_as
  rw [List.mem_filterMap]
  constructor
  · rintro ⟨j, hj, h⟩
    split at h
    · rename_i v hv
      cases h
      exact ⟨v, hv, rfl⟩
    · cases h
  · rintro ⟨v, hv, rfl⟩
    refine ⟨i, List.mem_range.mpr (List.getElem?_eq_some_iff.mp hv).1, ?_⟩
    rw [hv]
def av_LH (ad : Nat → Nat) (LS : Array Slot) (nL : Nat) (ls : av_L) : Prop := ls.length = nL ∧ lv_has LS nL (av_as ad ls)
theorem av_LH.get {ad : Nat → Nat} {LS : Array Slot} {nL : Nat} {ls : av_L} (h : av_LH ad LS nL ls) {i : Nat} {v : Value} (hv : ls[i]? = some (some v)) : LS[i]? = some (.val (av_cv ad v)) := h.2.2.2 (i, av_cv ad v) (av_as_mem.mpr ⟨v, hv, rfl⟩)
theorem av_cat (ad : Nat → Nat) (v : Value) : (av_cv ad v).category = v.category := by cases v <;> rfl
theorem av_cats (ad : Nat → Nat) (vs : List Value) : ((vs.map (av_cv ad)).map (fun v => v.category)).sum = (vs.map (fun v => v.category)).sum := by
  rw [List.map_map]
  congr 1
  apply List.map_congr_left
  intro v _
  exact av_cat ad v
theorem av_LH.set {ad : Nat → Nat} {LS LS2 : Array Slot} {nL : Nat} {ls ls2 : av_L} {i : Nat} {v : Value} (h : av_LH ad LS nL ls) (hs : av_sto ls i v = some ls2) (h2 : lv_has LS2 nL ((i, av_cv ad v) :: (av_as ad ls).filter (fun q => !(q.1 == i) && !(q.1 + 1 == i && q.2.category == 2)))) : av_LH ad LS2 nL ls2 := by
  unfold av_sto at hs
  split at hs
  · rename_i hc
    cases hs
    refine ⟨by simp [h.1], h2.1, h2.2.1, ?_⟩
    rintro ⟨j, x⟩ hq
    obtain ⟨u, hu, rfl⟩ := av_as_mem.mp hq
    apply h2.2.2 (j, av_cv ad u)
    by_cases hj : j = i
    · subst hj
      rw [List.getElem?_set_self hc.1] at hu
      cases hu
      exact List.mem_cons_self
    · rw [List.getElem?_set_ne (fun q => hj q.symm)] at hu
      refine List.mem_cons_of_mem _ (List.mem_filter.mpr ⟨av_as_mem.mpr ⟨u, hu, rfl⟩, ?_⟩)
      have hp := hc.2
      by_cases hji : j + 1 = i
      · subst hji
        simp only [av_prev, hu] at hp
        simp [av_cat]
        simpa using hp
      · simp [hj, hji]
  · cases hs
theorem av_sto_lt {ls ls2 : av_L} {i : Nat} {v : Value} (hs : av_sto ls i v = some ls2) : i < ls.length := by
  unfold av_sto at hs
  split at hs
  · rename_i hc
    exact hc.1
  · cases hs
def av_K (D : va_G) (kk : Nat → ClassId) (s : State) : Prop := va_K D vwCl [(kk 0, .int), (kk 1, .char), (kk 2, .object (av_R 0))] s ∧ ∀ w ∈ av_ns, va_Nw w s
/-- the script, where the method is the law's -/
def av_SX (s : State) (A : Nat → Prop) (ad : Nat → Nat) (w : av_W) (M : av_M) : Prop := M.2.2.2.2.1 = 99 → ∃ (t L : Nat) (xs : Nat → Int32), w.2.2 av_scr = .inl (t, L, .inl xs) ∧ va_X (ad av_scr) L xs s s.heap ∧ ad av_scr < s.heap.size ∧ ¬ A (ad av_scr)
def av_Fx (p : Program) (m : MethodId) (c : Code) (s : State) (args : Array Value) (D : va_G) (kk : Nat → ClassId) (meth : Method) (M : av_M) : Prop :=
  p.tables.exec = Jvm.exec ∧ c.code = M.2.1 ∧ c.maxLocals = M.2.2.1 ∧ s.vm.findClass (av_R M.2.2.2.2.1) = some m.cls ∧ (∀ w ∈ av_ws, w.before args s = true) ∧ av_K D kk s ∧ (av_isInit M = true → meth.name = "<init>")
def av_St (D : va_G) (kk : Nat → ClassId) (A : Nat → Prop) (s : State) (ad : Nat → Nat) (w : av_W) (H : Heap) (locs : List Loc) (LS : Array Slot) (nL : Nat) (ls : av_L) : Prop :=
  va_P D vwCl (av_cW ad kk w) H ∧ va_D A (av_cW ad kk w) ∧ va_S A s.heap H locs ∧ av_LH ad LS nL ls
/-- from every state of the JVM that shows this state of the machine -/
def av_go (p : Program) (l : Launch) (e : Env) (R : Room) (s : State) (m : MethodId) (args : Array Value) (below : List Frame) (meth : Method) (c : Code) (D : va_G) (kk : Nat → ClassId) (A : Nat → Prop) (ad : Nat → Nat) (nL cells slots : Nat) (Q : State → Prop) (pc : Nat) (ls : av_L) (st : List Value) (w : av_W) : Prop :=
  ∀ (H : Heap) (locs : List Loc) (LS : Array Slot), av_St D kk A s ad w H locs LS nL ls → W p l e R s m args below meth c H locs cells slots Q (F0 m pc LS (st.map (av_cv ad)))
section AVS
variable {p : Program} {l : Launch} {e : Env} {R : Room} {s : State} {m : MethodId} {args : Array Value} {below : List Frame} {meth : Method} {c : Code} {cells slots : Nat} {Q : State → Prop}
variable {D : va_G} {kk : Nat → ClassId} {A : Nat → Prop} {ad : Nat → Nat} {nL : Nat} {len pc pc2 : Nat} {ls ls2 : av_L} {st st2 : List Value} {w w2 : av_W} {cc : ByteArray}
theorem av_push_ok {n : Nat} {v : Value} (row : len = n → ∀ (H : Heap) (locs : List Loc) (LS : Array Slot) (rest : List Value), av_St D kk A s ad w H locs LS nL ls → W p l e R s m args below meth c H locs cells slots Q (F0 m (pc + n) LS (av_cv ad v :: rest)) → W p l e R s m args below meth c H locs cells slots Q (F0 m pc LS rest)) (hs : av_push n len pc ls v st w = some (pc2, ls2, st2, w2)) (k : av_go p l e R s m args below meth c D kk A ad nL cells slots Q pc2 ls2 st2 w2) : av_go p l e R s m args below meth c D kk A ad nL cells slots Q pc ls st w := by
  unfold av_push at hs
  split at hs
  · rename_i hl
    cases hs
    intro H locs LS X
    exact row hl H locs LS _ X (k H locs LS X)
  · cases hs
theorem av_ild_ok {n i : Nat} (row : len = n → ∀ (H : Heap) (locs : List Loc) (LS : Array Slot) (rest : List Value) (x : Int32), LS[i]? = some (.val (.int x)) → W p l e R s m args below meth c H locs cells slots Q (F0 m (pc + n) LS (.int x :: rest)) → W p l e R s m args below meth c H locs cells slots Q (F0 m pc LS rest)) (hs : av_ild n i len pc ls st w = some (pc2, ls2, st2, w2)) (k : av_go p l e R s m args below meth c D kk A ad nL cells slots Q pc2 ls2 st2 w2) : av_go p l e R s m args below meth c D kk A ad nL cells slots Q pc ls st w := by
  unfold av_ild at hs
  split at hs
  · rename_i x hx
    unfold av_push at hs
    split at hs
    · rename_i hl
      cases hs
      intro H locs LS X
      exact row hl H locs LS _ x (X.2.2.2.get hx) (k H locs LS X)
    · cases hs
  · cases hs
theorem av_lld_ok {n i : Nat} (row : len = n → ∀ (H : Heap) (locs : List Loc) (LS : Array Slot) (rest : List Value) (x : Int64), LS[i]? = some (.val (.long x)) → W p l e R s m args below meth c H locs cells slots Q (F0 m (pc + n) LS (.long x :: rest)) → W p l e R s m args below meth c H locs cells slots Q (F0 m pc LS rest)) (hs : av_lld n i len pc ls st w = some (pc2, ls2, st2, w2)) (k : av_go p l e R s m args below meth c D kk A ad nL cells slots Q pc2 ls2 st2 w2) : av_go p l e R s m args below meth c D kk A ad nL cells slots Q pc ls st w := by
  unfold av_lld at hs
  split at hs
  · rename_i x hx
    unfold av_push at hs
    split at hs
    · rename_i hl
      cases hs
      intro H locs LS X
      exact row hl H locs LS _ x (X.2.2.2.get hx) (k H locs LS X)
    · cases hs
  · cases hs
theorem av_ald_ok {n i : Nat} (row : len = n → ∀ (H : Heap) (locs : List Loc) (LS : Array Slot) (rest : List Value) (x : Nat), LS[i]? = some (.val (.ref (ad x))) → W p l e R s m args below meth c H locs cells slots Q (F0 m (pc + n) LS (.ref (ad x) :: rest)) → W p l e R s m args below meth c H locs cells slots Q (F0 m pc LS rest)) (hs : av_ald n i len pc ls st w = some (pc2, ls2, st2, w2)) (k : av_go p l e R s m args below meth c D kk A ad nL cells slots Q pc2 ls2 st2 w2) : av_go p l e R s m args below meth c D kk A ad nL cells slots Q pc ls st w := by
  unfold av_ald at hs
  split at hs
  · rename_i x hx
    unfold av_push at hs
    split at hs
    · rename_i hl
      cases hs
      intro H locs LS X
      exact row hl H locs LS _ x (X.2.2.2.get hx) (k H locs LS X)
    · cases hs
  · cases hs
theorem av_ist_ok {n i : Nat} (row : len = n → ∀ (H : Heap) (locs : List Loc) (LS : Array Slot) (rest : List Value) (x : Int32), i < nL → lv_has LS nL (av_as ad ls) → (∀ LS2 : Array Slot, lv_has LS2 nL ((i, Value.int x) :: (av_as ad ls).filter (fun q => !(q.1 == i) && !(q.1 + 1 == i && q.2.category == 2))) → W p l e R s m args below meth c H locs cells slots Q (F0 m (pc + n) LS2 rest)) → W p l e R s m args below meth c H locs cells slots Q (F0 m pc LS (.int x :: rest))) (hs : av_ist n i len pc ls st w = some (pc2, ls2, st2, w2)) (k : av_go p l e R s m args below meth c D kk A ad nL cells slots Q pc2 ls2 st2 w2) : av_go p l e R s m args below meth c D kk A ad nL cells slots Q pc ls st w := by
  unfold av_ist at hs
  split at hs
  · split at hs
    · rename_i hl
      rw [Option.map_eq_some_iff] at hs
      obtain ⟨l2, h1, h2⟩ := hs
      cases h2
      intro H locs LS X
      have hi : i < nL := X.2.2.2.1 ▸ av_sto_lt h1
      exact row hl H locs LS _ _ hi X.2.2.2.2 (fun LS2 h2 => k H locs LS2 ⟨X.1, X.2.1, X.2.2.1, X.2.2.2.set h1 h2⟩)
    · cases hs
  · cases hs
theorem av_ast_ok {n i : Nat} (row : len = n → ∀ (H : Heap) (locs : List Loc) (LS : Array Slot) (rest : List Value) (x : Nat), i < nL → lv_has LS nL (av_as ad ls) → (∀ LS2 : Array Slot, lv_has LS2 nL ((i, Value.ref (ad x)) :: (av_as ad ls).filter (fun q => !(q.1 == i) && !(q.1 + 1 == i && q.2.category == 2))) → W p l e R s m args below meth c H locs cells slots Q (F0 m (pc + n) LS2 rest)) → W p l e R s m args below meth c H locs cells slots Q (F0 m pc LS (.ref (ad x) :: rest))) (hs : av_ast n i len pc ls st w = some (pc2, ls2, st2, w2)) (k : av_go p l e R s m args below meth c D kk A ad nL cells slots Q pc2 ls2 st2 w2) : av_go p l e R s m args below meth c D kk A ad nL cells slots Q pc ls st w := by
  unfold av_ast at hs
  split at hs
  · split at hs
    · rename_i hl
      rw [Option.map_eq_some_iff] at hs
      obtain ⟨l2, h1, h2⟩ := hs
      cases h2
      intro H locs LS X
      have hi : i < nL := X.2.2.2.1 ▸ av_sto_lt h1
      exact row hl H locs LS _ _ hi X.2.2.2.2 (fun LS2 h2 => k H locs LS2 ⟨X.1, X.2.1, X.2.2.1, X.2.2.2.set h1 h2⟩)
    · cases hs
  · cases hs
theorem av_iinc_ok (hx : p.tables.exec = Jvm.exec) (hb : c.code = cc) {i : Nat} {n : Int} (hd : decode cc pc = .ok (.iinc i n, len)) (hs : av_iinc i n len pc ls st w = some (pc2, ls2, st2, w2)) (k : av_go p l e R s m args below meth c D kk A ad nL cells slots Q pc2 ls2 st2 w2) : av_go p l e R s m args below meth c D kk A ad nL cells slots Q pc ls st w := by
  unfold av_iinc at hs
  split at hs
  · rename_i x hv
    split at hs
    · rename_i hl
      subst hl
      rw [Option.map_eq_some_iff] at hs
      obtain ⟨l2, h1, h2⟩ := hs
      cases h2
      intro H locs LS X
      have hi : i < nL := X.2.2.2.1 ▸ av_sto_lt h1
      obtain ⟨j, hj⟩ := List.getElem?_of_mem (av_as_mem.mpr ⟨_, hv, rfl⟩ : (i, av_cv ad (.int x)) ∈ av_as ad ls)
      exact lv_iinc hx hb hd X.2.2.2.2 hj rfl hi rfl (fun LS2 h2 => k H locs LS2 ⟨X.1, X.2.1, X.2.2.1, X.2.2.2.set h1 h2⟩)
    · cases hs
  · cases hs
theorem av_bin_ok {f : Int32 → Int32 → Int32} (row : len = 1 → ∀ (H : Heap) (locs : List Loc) (LS : Array Slot) (rest : List Value) (x y : Int32), W p l e R s m args below meth c H locs cells slots Q (F0 m (pc + 1) LS (.int (f x y) :: rest)) → W p l e R s m args below meth c H locs cells slots Q (F0 m pc LS (.int y :: .int x :: rest))) (hs : av_bin f len pc ls st w = some (pc2, ls2, st2, w2)) (k : av_go p l e R s m args below meth c D kk A ad nL cells slots Q pc2 ls2 st2 w2) : av_go p l e R s m args below meth c D kk A ad nL cells slots Q pc ls st w := by
  unfold av_bin at hs
  split at hs
  · unfold av_push at hs
    split at hs
    · rename_i hl
      cases hs
      intro H locs LS X
      exact row hl H locs LS _ _ _ (k H locs LS X)
    · cases hs
  · cases hs
theorem av_div_ok {f : Int32 → Int32 → Int32} (row : len = 1 → ∀ (H : Heap) (locs : List Loc) (LS : Array Slot) (rest : List Value) (x y : Int32), ¬ y = 0 → W p l e R s m args below meth c H locs cells slots Q (F0 m (pc + 1) LS (.int (f x y) :: rest)) → W p l e R s m args below meth c H locs cells slots Q (F0 m pc LS (.int y :: .int x :: rest))) (hs : av_div f len pc ls st w = some (pc2, ls2, st2, w2)) (k : av_go p l e R s m args below meth c D kk A ad nL cells slots Q pc2 ls2 st2 w2) : av_go p l e R s m args below meth c D kk A ad nL cells slots Q pc ls st w := by
  unfold av_div at hs
  split at hs
  · split at hs
    · cases hs
    · rename_i hy
      unfold av_push at hs
      split at hs
      · rename_i hl
        cases hs
        intro H locs LS X
        exact row hl H locs LS _ _ _ hy (k H locs LS X)
      · cases hs
  · cases hs
theorem av_lbin_ok {f : Int64 → Int64 → Value} (row : len = 1 → ∀ (H : Heap) (locs : List Loc) (LS : Array Slot) (rest : List Value) (x y : Int64), W p l e R s m args below meth c H locs cells slots Q (F0 m (pc + 1) LS (av_cv ad (f x y) :: rest)) → W p l e R s m args below meth c H locs cells slots Q (F0 m pc LS (.long y :: .long x :: rest))) (hs : av_lbin f len pc ls st w = some (pc2, ls2, st2, w2)) (k : av_go p l e R s m args below meth c D kk A ad nL cells slots Q pc2 ls2 st2 w2) : av_go p l e R s m args below meth c D kk A ad nL cells slots Q pc ls st w := by
  unfold av_lbin at hs
  split at hs
  · unfold av_push at hs
    split at hs
    · rename_i hl
      cases hs
      intro H locs LS X
      exact row hl H locs LS _ _ _ (k H locs LS X)
    · cases hs
  · cases hs
theorem av_un_ok {f : Int32 → Value} (row : len = 1 → ∀ (H : Heap) (locs : List Loc) (LS : Array Slot) (rest : List Value) (x : Int32), W p l e R s m args below meth c H locs cells slots Q (F0 m (pc + 1) LS (av_cv ad (f x) :: rest)) → W p l e R s m args below meth c H locs cells slots Q (F0 m pc LS (.int x :: rest))) (hs : av_un f len pc ls st w = some (pc2, ls2, st2, w2)) (k : av_go p l e R s m args below meth c D kk A ad nL cells slots Q pc2 ls2 st2 w2) : av_go p l e R s m args below meth c D kk A ad nL cells slots Q pc ls st w := by
  unfold av_un at hs
  split at hs
  · unfold av_push at hs
    split at hs
    · rename_i hl
      cases hs
      intro H locs LS X
      exact row hl H locs LS _ _ (k H locs LS X)
    · cases hs
  · cases hs
theorem av_tgt_ok {off : Int} {k : Nat → av_N1} {r : Nat × av_L × List Value × av_W} (h : av_tgt pc off k = some r) : ∃ tgt : Nat, (pc : Int) + off = (tgt : Int) ∧ k tgt = some r := by
  unfold av_tgt at h
  split at h
  · rename_i h0
    exact ⟨_, by omega, h⟩
  · cases h
theorem av_if1_ok {cnd : Int32 → Prop} {dc : ∀ x, Decidable (cnd x)} {off : Int} (row : len = 3 → ∀ (H : Heap) (locs : List Loc) (LS : Array Slot) (rest : List Value) (x : Int32) (tgt : Nat), (pc : Int) + off = (tgt : Int) → (cnd x → W p l e R s m args below meth c H locs cells slots Q (F0 m tgt LS rest)) → (¬ cnd x → W p l e R s m args below meth c H locs cells slots Q (F0 m (pc + 3) LS rest)) → W p l e R s m args below meth c H locs cells slots Q (F0 m pc LS (.int x :: rest))) (hs : av_if1 cnd off len pc ls st w = some (pc2, ls2, st2, w2)) (k : av_go p l e R s m args below meth c D kk A ad nL cells slots Q pc2 ls2 st2 w2) : av_go p l e R s m args below meth c D kk A ad nL cells slots Q pc ls st w := by
  unfold av_if1 at hs
  split at hs
  · unfold av_ifs at hs
    split at hs
    · rename_i x rest hl
      obtain ⟨tgt, ht, hk⟩ := av_tgt_ok hs
      cases hk
      intro H locs LS X
      refine row hl H locs LS _ x tgt ht (fun h => ?_) (fun h => ?_)
      · have q := k H locs LS X
        rw [if_pos h] at q
        exact q
      · have q := k H locs LS X
        rw [if_neg h] at q
        exact q
    · cases hs
  · cases hs
theorem av_if2_ok {cnd : Int32 → Int32 → Prop} {dc : ∀ x y, Decidable (cnd x y)} {off : Int} (row : len = 3 → ∀ (H : Heap) (locs : List Loc) (LS : Array Slot) (rest : List Value) (x y : Int32) (tgt : Nat), (pc : Int) + off = (tgt : Int) → (cnd x y → W p l e R s m args below meth c H locs cells slots Q (F0 m tgt LS rest)) → (¬ cnd x y → W p l e R s m args below meth c H locs cells slots Q (F0 m (pc + 3) LS rest)) → W p l e R s m args below meth c H locs cells slots Q (F0 m pc LS (.int y :: .int x :: rest))) (hs : av_if2 cnd off len pc ls st w = some (pc2, ls2, st2, w2)) (k : av_go p l e R s m args below meth c D kk A ad nL cells slots Q pc2 ls2 st2 w2) : av_go p l e R s m args below meth c D kk A ad nL cells slots Q pc ls st w := by
  unfold av_if2 at hs
  split at hs
  · unfold av_ifs at hs
    split at hs
    · rename_i y x rest hl
      obtain ⟨tgt, ht, hk⟩ := av_tgt_ok hs
      cases hk
      intro H locs LS X
      refine row hl H locs LS _ x y tgt ht (fun h => ?_) (fun h => ?_)
      · have q := k H locs LS X
        rw [if_pos h] at q
        exact q
      · have q := k H locs LS X
        rw [if_neg h] at q
        exact q
    · cases hs
  · cases hs
theorem av_tab_ok (hx : p.tables.exec = Jvm.exec) (hb : c.code = cc) {dflt lo hi : Int} {offs : Array Int} (hd : decode cc pc = .ok (.tableswitch dflt lo hi offs, len)) (hs : av_tab dflt lo hi offs pc ls st w = some (pc2, ls2, st2, w2)) (k : av_go p l e R s m args below meth c D kk A ad nL cells slots Q pc2 ls2 st2 w2) : av_go p l e R s m args below meth c D kk A ad nL cells slots Q pc ls st w := by
  unfold av_tab at hs
  split at hs
  · split at hs
    · rename_i ho
      obtain ⟨tgt, ht, hk⟩ := av_tgt_ok hs
      cases hk
      intro H locs LS X
      exact lv_tableOut hx hb hd ho ht (k H locs LS X)
    · rename_i ho
      split at hs
      · rename_i off hoff
        obtain ⟨tgt, ht, hk⟩ := av_tgt_ok hs
        cases hk
        intro H locs LS X
        exact lv_tableIn hx hb hd (fun q => ho (Or.inl q)) (fun q => ho (Or.inr q)) hoff ht (k H locs LS X)
      · cases hs
  · cases hs
theorem av_fld_ok {own i ci k : Nat} {h : String} (hf : av_fld own i = some (ci, k, h)) : ci < 5 ∧ k < av_N ci ∧ (if h = "" then Cond.fieldLink (av_R own) i (av_T ci k).1 (av_T ci k).2.1 (av_T ci k).2.2.1 ∈ av_ws else Cond.fieldLinkNest (av_R own) i (av_T ci k).1 (av_T ci k).2.1 (av_T ci k).2.2.1 h ∈ av_ns) := by
  unfold av_fld at hf
  rw [Option.map_eq_some_iff] at hf
  obtain ⟨q, h1, h2⟩ := hf
  have h3 := List.find?_some h1
  have h4 := List.all_eq_true.mp av_fldL_ok q (List.mem_of_find?_eq_some h1)
  obtain ⟨o, j, c2, k2, hh, pp⟩ := q
  cases h2
  simp only [Bool.and_eq_true, beq_iff_eq] at h3
  obtain ⟨rfl, rfl⟩ := h3
  simp only [av_okF, Bool.and_eq_true, decide_eq_true_eq] at h4
  refine ⟨h4.1.1, h4.1.2, ?_⟩
  have h5 := h4.2
  by_cases hz : hh = ""
  · rw [if_pos hz] at h5 ⊢
    exact av_inT_ws h5
  · rw [if_neg hz] at h5 ⊢
    exact av_inN_ns h5
theorem av_cls_ok {own i ci : Nat} (hf : av_cls own i = some ci) : ci < 5 ∧ Cond.classLink (av_R own) i (av_R ci) ∈ av_ws ∧ Cond.instantiable (av_R ci) (av_N ci) ∈ av_ws ∧ Cond.initialized (av_R ci) ∈ av_ws := by
  unfold av_cls at hf
  rw [Option.map_eq_some_iff] at hf
  obtain ⟨q, h1, h2⟩ := hf
  have h3 := List.find?_some h1
  have h4 := List.all_eq_true.mp av_clsL_ok q (List.mem_of_find?_eq_some h1)
  obtain ⟨o, j, c2⟩ := q
  cases h2
  simp only [Bool.and_eq_true, beq_iff_eq] at h3
  obtain ⟨rfl, rfl⟩ := h3
  simp only [Bool.and_eq_true, decide_eq_true_eq] at h4
  exact ⟨h4.1.1.1, av_inA_ws h4.1.1.2, av_inA_ws h4.1.2, av_inA_ws h4.2⟩
theorem av_ki_ok {own i : Nat} {v : Int32} (hf : av_ki own i = some v) : Cond.constant (av_R own) i v ∈ av_ws := by
  unfold av_ki at hf
  rw [Option.map_eq_some_iff] at hf
  obtain ⟨q, h1, h2⟩ := hf
  have h3 := List.find?_some h1
  have h4 := List.all_eq_true.mp av_kiL_ok q (List.mem_of_find?_eq_some h1)
  obtain ⟨o, j, c2⟩ := q
  cases h2
  simp only [Bool.and_eq_true, beq_iff_eq] at h3
  obtain ⟨rfl, rfl⟩ := h3
  exact av_inA_ws h4
theorem av_kl_ok {own i : Nat} {v : Int64} (hf : av_kl own i = some v) : Cond.constantLong (av_R own) i v ∈ av_ws := by
  unfold av_kl at hf
  rw [Option.map_eq_some_iff] at hf
  obtain ⟨q, h1, h2⟩ := hf
  have h3 := List.find?_some h1
  have h4 := List.all_eq_true.mp av_klL_ok q (List.mem_of_find?_eq_some h1)
  obtain ⟨o, j, c2⟩ := q
  cases h2
  simp only [Bool.and_eq_true, beq_iff_eq] at h3
  obtain ⟨rfl, rfl⟩ := h3
  exact av_inA_ws h4
theorem av_mm_ok {own i : Nat} {b : Bool} (hf : av_mm own i = some b) : Cond.methodLink (av_R own) i (if b then Lib.Math.max.name else Lib.Math.min.name) ∈ av_ws ∧ Cond.static (if b then Lib.Math.max.name else Lib.Math.min.name) ∈ av_ws ∧ Cond.code (if b then Lib.Math.max.name else Lib.Math.min.name) (if b then Lib.Math.max.code else Lib.Math.min.code) 2 (some .int) ∈ av_ws ∧ Cond.initialized "java/lang/Math" ∈ av_ws := by
  unfold av_mm at hf
  rw [Option.map_eq_some_iff] at hf
  obtain ⟨q, h1, h2⟩ := hf
  have h3 := List.find?_some h1
  have h4 := List.all_eq_true.mp av_mmL_ok q (List.mem_of_find?_eq_some h1)
  obtain ⟨o, j, c2, p1, p2, p3, p4⟩ := q
  cases h2
  simp only [Bool.and_eq_true, beq_iff_eq] at h3
  obtain ⟨rfl, rfl⟩ := h3
  simp only [Bool.and_eq_true] at h4
  exact ⟨av_inT_ws h4.1.1.1, av_inT_ws h4.1.1.2, av_inT_ws h4.1.2, av_inT_ws h4.2⟩
theorem av_getf_ok {M : av_M} (Fx : av_Fx p m c s args D kk meth M) {i : Nat} (hd : decode M.2.1 pc = .ok (.getfield i, len)) (hs : av_getf M.2.2.2.2.1 i len pc ls st w = some (pc2, ls2, st2, w2)) (k : av_go p l e R s m args below meth c D kk A ad M.2.2.1 cells slots Q pc2 ls2 st2 w2) : av_go p l e R s m args below meth c D kk A ad M.2.2.1 cells slots Q pc ls st w := by
  obtain ⟨hx, hb, hml, hown, hts, hK, hnm⟩ := Fx
  unfold av_getf at hs
  split at hs
  case h_2 => cases hs
  case h_1 =>
  rename_i a rest
  split at hs
  case isFalse => cases hs
  case isTrue h0 =>
  obtain ⟨ha, rfl⟩ := h0
  split at hs
  case h_2 => cases hs
  case h_1 =>
  rename_i ci kf hh hf
  obtain ⟨f1, f2, f3⟩ := av_fld_ok hf
  split at hs
  case h_2 => cases hs
  case h_1 =>
  rename_i c2 fs hc
  split at hs
  case isFalse => cases hs
  case isTrue hci =>
  subst hci
  split at hs
  case h_2 => cases hs
  case h_1 =>
  rename_i v hv
  cases hs
  intro H locs LS X
  have he := av_cW_get (ad := ad) (kk := kk) ha
  rw [hc] at he
  have hv2 : (fs.map (av_cv ad))[kf]? = some (av_cv ad v) := by rw [List.getElem?_map, hv]; rfl
  by_cases hz : hh = ""
  · rw [if_pos hz] at f3
    exact va_get (ws := av_cW ad kk w) hx hb hts (av_lays c2 f1) hown hK.1 X.1 a he (av_cl c2 f1) kf f2 (hts _ f3) (fun _ q => q) hv2 hd (k H locs LS X)
  · rw [if_neg hz] at f3
    exact va_getN (ws := av_cW ad kk w) hx hb hts (av_lays c2 f1) hown hK.1 X.1 a he (av_cl c2 f1) kf f2 (va_Nw.use rfl (hK.2 _ f3)) (fun _ q => q) hv2 hd (k H locs LS X)
theorem av_fit_ok {ty : FieldType} {v : Value} (ad : Nat → Nat) (h : av_fit ty v = true) : narrow ty (av_cv ad v) = av_cv ad v ∧ fits ty (av_cv ad v) = true := by
  unfold av_fit at h
  split at h
  · exact ⟨rfl, rfl⟩
  · rename_i x
    have hx : x = 0 ∨ x = 1 := by simpa using h
    rcases hx with rfl | rfl
    · exact ⟨(by decide +kernel : narrow .boolean (.int 0) = .int 0), (by decide +kernel : fits .boolean (.int 0) = true)⟩
    · exact ⟨(by decide +kernel : narrow .boolean (.int 1) = .int 1), (by decide +kernel : fits .boolean (.int 1) = true)⟩
  · rename_i x
    simp only [Bool.and_eq_true, decide_eq_true_eq] at h
    obtain ⟨q, hq, rfl⟩ := nI_of h.1
    have h2 : q ≤ 65535 := by
      have h3 : nI q ≤ nI 65535 := h.2
      exact (nI_leI hq (by decide)).mp h3
    exact pk_charN (by omega)
  · exact ⟨rfl, rfl⟩
  · exact ⟨rfl, rfl⟩
  · cases h
theorem av_putf_ok {M : av_M} (Fx : av_Fx p m c s args D kk meth M) {i : Nat} (hd : decode M.2.1 pc = .ok (.putfield i, len)) (hs : av_putf M.2.2.2.2.1 (av_isInit M) i len pc ls st w = some (pc2, ls2, st2, w2)) (k : av_go p l e R s m args below meth c D kk A ad M.2.2.1 cells slots Q pc2 ls2 st2 w2) : av_go p l e R s m args below meth c D kk A ad M.2.2.1 cells slots Q pc ls st w := by
  obtain ⟨hx, hb, hml, hown, hts, hK, hnm⟩ := Fx
  unfold av_putf at hs
  split at hs
  case h_2 => cases hs
  case h_1 =>
  rename_i v a rest
  split at hs
  case isFalse => cases hs
  case isTrue h0 =>
  obtain ⟨ha, rfl⟩ := h0
  split at hs
  case h_2 => cases hs
  case h_1 =>
  rename_i ci kf hh hf
  obtain ⟨f1, f2, f3⟩ := av_fld_ok hf
  split at hs
  case h_2 => cases hs
  case h_1 =>
  rename_i c2 fs hc
  split at hs
  case isFalse => cases hs
  case isTrue hci =>
  obtain ⟨rfl, hlen, hfit, hfin⟩ := hci
  cases hs
  intro H locs LS X
  have he := av_cW_get (ad := ad) (kk := kk) ha
  rw [hc] at he
  obtain ⟨hn, hft⟩ := av_fit_ok ad hfit
  have hl2 : kf < (fs.map (av_cv ad)).length := by rw [List.length_map]; exact hlen
  have hset : (av_cW ad kk w).set a (ad a, .inr (c2, (fs.map (av_cv ad)).set kf (av_cv ad v))) = av_cW ad kk (w.1, w.2.1, av_up w.2.2 a (.inr (c2, fs.set kf v))) := by
    rw [← av_cW_set ha]
    simp only [av_cE, List.map_set]
  have kgo : ∀ (H1 : Heap) (locs1 : List Loc), va_P D vwCl ((av_cW ad kk w).set a (ad a, .inr (c2, (fs.map (av_cv ad)).set kf (av_cv ad v)))) H1 → va_D A ((av_cW ad kk w).set a (ad a, .inr (c2, (fs.map (av_cv ad)).set kf (av_cv ad v)))) → va_S A s.heap H1 locs1 → W p l e R s m args below meth c H1 locs1 cells slots Q (F0 m (pc + 3) LS (st2.map (av_cv ad))) := fun H1 locs1 h1 h2 h3 => k H1 locs1 LS ⟨hset ▸ h1, hset ▸ h2, h3, X.2.2.2⟩
  by_cases hz : hh = ""
  · rw [if_pos hz] at f3
    rcases hfin with hfin | ⟨hin, hoc, -⟩
    · exact va_put (ws := av_cW ad kk w) hx hb hts (av_lays c2 f1) (av_ty c2) (av_tys c2 f1) (av_nms c2 f1) hown hK.1 X.1 X.2.1 X.2.2.1 a he (av_cl c2 f1) kf f2 (hts _ f3) (fun _ q => q) hfin (av_tys c2 f1 kf f2) hn hft hl2 hd kgo
    · by_cases hfin : (av_T c2 kf).2.2.2 = false
      · exact va_put (ws := av_cW ad kk w) hx hb hts (av_lays c2 f1) (av_ty c2) (av_tys c2 f1) (av_nms c2 f1) hown hK.1 X.1 X.2.1 X.2.2.1 a he (av_cl c2 f1) kf f2 (hts _ f3) (fun _ q => q) hfin (av_tys c2 f1 kf f2) hn hft hl2 hd kgo
      · have hin2 : meth.name = "<init>" := hnm hin
        exact va_putF (ws := av_cW ad kk w) hx hb hts (av_lays c2 f1) (av_ty c2) (av_tys c2 f1) (av_nms c2 f1) hown hK.1 X.1 X.2.1 X.2.2.1 a he (av_cl c2 f1) kf f2 (hts _ f3) (fun _ q => q) (by simpa using hfin) hin2 (by rw [hoc]; exact av_dcl c2 f1 kf f2) (av_tys c2 f1 kf f2) hn hft hl2 hd kgo
  · rw [if_neg hz] at f3
    rcases hfin with hfin | ⟨-, -, hh0⟩
    · exact va_putN (ws := av_cW ad kk w) hx hb hts (av_lays c2 f1) (av_ty c2) (av_tys c2 f1) (av_nms c2 f1) hown hK.1 X.1 X.2.1 X.2.2.1 a he (av_cl c2 f1) kf f2 (va_Nw.use rfl (hK.2 _ f3)) (fun _ q => q) hfin (av_tys c2 f1 kf f2) hn hft hl2 hd kgo
    · exact absurd hh0 hz
theorem av_inr_ok {i : Int32} {n : Nat} (h : av_inr i n = true) : vp_in i n := by
  simp only [av_inr, Bool.and_eq_true, decide_eq_true_eq] at h
  rintro (q | q)
  · exact h.1 q
  · omega
theorem av_iald_ok {M : av_M} (Fx : av_Fx p m c s args D kk meth M) (hd : decode M.2.1 pc = .ok (.iaload, len)) (hs : av_xald 0 len pc ls st w = some (pc2, ls2, st2, w2)) (k : av_go p l e R s m args below meth c D kk A ad M.2.2.1 cells slots Q pc2 ls2 st2 w2) : av_go p l e R s m args below meth c D kk A ad M.2.2.1 cells slots Q pc ls st w := by
  obtain ⟨hx, hb, hml, hown, hts, hK, hnm⟩ := Fx
  unfold av_xald at hs
  split at hs
  case h_2 => cases hs
  case h_1 =>
  rename_i i a rest
  split at hs
  case h_2 => cases hs
  case h_1 =>
  rename_i t2 n f hc
  split at hs
  case isFalse => cases hs
  case isTrue h0 =>
  obtain ⟨ha, rfl, rfl, hin⟩ := h0
  cases hs
  intro H locs LS X
  have he := av_cW_get (ad := ad) (kk := kk) ha
  rw [hc] at he
  exact va_iald (ws := av_cW ad kk w) hx hb hK.1 X.1 a 0 he rfl (av_inr_ok hin) hd (k H locs LS X)
theorem av_cald_ok {M : av_M} (Fx : av_Fx p m c s args D kk meth M) (hd : decode M.2.1 pc = .ok (.caload, len)) (hs : av_xald 1 len pc ls st w = some (pc2, ls2, st2, w2)) (k : av_go p l e R s m args below meth c D kk A ad M.2.2.1 cells slots Q pc2 ls2 st2 w2) : av_go p l e R s m args below meth c D kk A ad M.2.2.1 cells slots Q pc ls st w := by
  obtain ⟨hx, hb, hml, hown, hts, hK, hnm⟩ := Fx
  unfold av_xald at hs
  split at hs
  case h_2 => cases hs
  case h_1 =>
  rename_i i a rest
  split at hs
  case h_2 => cases hs
  case h_1 =>
  rename_i t2 n f hc
  split at hs
  case isFalse => cases hs
  case isTrue h0 =>
  obtain ⟨ha, rfl, rfl, hin⟩ := h0
  cases hs
  intro H locs LS X
  have he := av_cW_get (ad := ad) (kk := kk) ha
  rw [hc] at he
  exact va_cald (ws := av_cW ad kk w) hx hb hK.1 X.1 a 1 he rfl (av_inr_ok hin) hd (k H locs LS X)
theorem av_iast_ok {M : av_M} (Fx : av_Fx p m c s args D kk meth M) (hd : decode M.2.1 pc = .ok (.iastore, len)) (hs : av_xast (fun x => x) 0 len pc ls st w = some (pc2, ls2, st2, w2)) (k : av_go p l e R s m args below meth c D kk A ad M.2.2.1 cells slots Q pc2 ls2 st2 w2) : av_go p l e R s m args below meth c D kk A ad M.2.2.1 cells slots Q pc ls st w := by
  obtain ⟨hx, hb, hml, hown, hts, hK, hnm⟩ := Fx
  unfold av_xast at hs
  split at hs
  case h_2 => cases hs
  case h_1 =>
  rename_i x i a rest
  split at hs
  case h_2 => cases hs
  case h_1 =>
  rename_i t2 n f hc
  split at hs
  case isFalse => cases hs
  case isTrue h0 =>
  obtain ⟨ha, rfl, rfl, hin⟩ := h0
  cases hs
  intro H locs LS X
  have he := av_cW_get (ad := ad) (kk := kk) ha
  rw [hc] at he
  refine va_iast (ws := av_cW ad kk w) hx hb hK.1 X.1 X.2.1 X.2.2.1 a 0 he rfl (av_inr_ok hin) hd (fun H1 locs1 h1 h2 h3 => k H1 locs1 LS ⟨?_, ?_, h3, X.2.2.2⟩)
  · rw [← av_cW_set ha]
    exact h1
  · rw [← av_cW_set ha]
    exact h2
theorem av_cast_ok {M : av_M} (Fx : av_Fx p m c s args D kk meth M) (hd : decode M.2.1 pc = .ok (.castore, len)) (hs : av_xast (vp_nar .char) 1 len pc ls st w = some (pc2, ls2, st2, w2)) (k : av_go p l e R s m args below meth c D kk A ad M.2.2.1 cells slots Q pc2 ls2 st2 w2) : av_go p l e R s m args below meth c D kk A ad M.2.2.1 cells slots Q pc ls st w := by
  obtain ⟨hx, hb, hml, hown, hts, hK, hnm⟩ := Fx
  unfold av_xast at hs
  split at hs
  case h_2 => cases hs
  case h_1 =>
  rename_i x i a rest
  split at hs
  case h_2 => cases hs
  case h_1 =>
  rename_i t2 n f hc
  split at hs
  case isFalse => cases hs
  case isTrue h0 =>
  obtain ⟨ha, rfl, rfl, hin⟩ := h0
  cases hs
  intro H locs LS X
  have he := av_cW_get (ad := ad) (kk := kk) ha
  rw [hc] at he
  refine va_cast (ws := av_cW ad kk w) hx hb hK.1 X.1 X.2.1 X.2.2.1 a 1 he rfl (av_inr_ok hin) hd (fun H1 locs1 h1 h2 h3 => k H1 locs1 LS ⟨?_, ?_, h3, X.2.2.2⟩)
  · rw [← av_cW_set ha]
    exact h1
  · rw [← av_cW_set ha]
    exact h2
theorem av_rald_ok {M : av_M} (Fx : av_Fx p m c s args D kk meth M) (hd : decode M.2.1 pc = .ok (.aaload, len)) (hs : av_rald len pc ls st w = some (pc2, ls2, st2, w2)) (k : av_go p l e R s m args below meth c D kk A ad M.2.2.1 cells slots Q pc2 ls2 st2 w2) : av_go p l e R s m args below meth c D kk A ad M.2.2.1 cells slots Q pc ls st w := by
  obtain ⟨hx, hb, hml, hown, hts, hK, hnm⟩ := Fx
  unfold av_rald at hs
  split at hs
  case h_2 => cases hs
  case h_1 =>
  rename_i i a rest
  split at hs
  case h_2 => cases hs
  case h_1 =>
  rename_i t2 n f hc
  split at hs
  case isFalse => cases hs
  case isTrue h0 =>
  obtain ⟨ha, rfl, rfl, hin⟩ := h0
  split at hs
  case h_2 => cases hs
  case h_1 =>
  rename_i r hr
  cases hs
  intro H locs LS X
  have he := av_cW_get (ad := ad) (kk := kk) ha
  rw [hc] at he
  have hlt : i.toNatClampNeg < n := by
    simp only [av_inr, Bool.and_eq_true, decide_eq_true_eq] at hin
    exact hin.2
  refine va_aldq (ws := av_cW ad kk w) hx hb hK.1 X.1 a 2 he rfl (av_inr_ok hin) hd ?_
  show W p l e R s m args below meth c H locs cells slots Q (F0 m (pc + 1) LS (va_rf (if i.toNatClampNeg < n then (f i.toNatClampNeg).map ad else none) :: rest.map (av_cv ad)))
  rw [if_pos hlt, hr]
  exact k H locs LS X
theorem av_rast_ok {M : av_M} (Fx : av_Fx p m c s args D kk meth M) (hd : decode M.2.1 pc = .ok (.aastore, len)) (hs : av_rast len pc ls st w = some (pc2, ls2, st2, w2)) (k : av_go p l e R s m args below meth c D kk A ad M.2.2.1 cells slots Q pc2 ls2 st2 w2) : av_go p l e R s m args below meth c D kk A ad M.2.2.1 cells slots Q pc ls st w := by
  obtain ⟨hx, hb, hml, hown, hts, hK, hnm⟩ := Fx
  unfold av_rast at hs
  split at hs
  case h_2 => cases hs
  case h_1 =>
  rename_i v i a rest
  split at hs
  case h_2 => cases hs
  case h_1 =>
  rename_i t2 n f c2 vs hc hv
  split at hs
  case isFalse => cases hs
  case isTrue h0 =>
  obtain ⟨⟨ha, hav⟩, rfl, rfl, rfl, hin⟩ := h0
  cases hs
  intro H locs LS X
  have he := av_cW_get (ad := ad) (kk := kk) ha
  rw [hc] at he
  have hev := av_cW_get (ad := ad) (kk := kk) hav
  rw [hv] at hev
  have hlt : i.toNatClampNeg < n := by
    simp only [av_inr, Bool.and_eq_true, decide_eq_true_eq] at hin
    exact hin.2
  have hf : (va_up (fun j => if j < n then (f j).map ad else none) i.toNatClampNeg (some (ad v))) = (fun j => if j < n then (va_up f i.toNatClampNeg (some v) j).map ad else none) := by
    funext j
    unfold va_up
    by_cases hj : j = i.toNatClampNeg
    · subst hj
      simp [hlt]
    · simp [hj]
  refine va_astq (ws := av_cW ad kk w) hx hb hK.1 X.1 X.2.1 X.2.2.1 a 2 v 0 he rfl hev (av_cl 0 (by omega)) (av_inr_ok hin) hd (fun H1 locs1 h1 h2 h3 => k H1 locs1 LS ⟨?_, ?_, h3, X.2.2.2⟩)
  · rw [hf] at h1
    rw [← av_cW_set ha]
    exact h1
  · rw [hf] at h2
    rw [← av_cW_set ha]
    exact h2
theorem av_alen_ok {M : av_M} (Fx : av_Fx p m c s args D kk meth M) (hd : decode M.2.1 pc = .ok (.arraylength, len)) (hs : av_alen len pc ls st w = some (pc2, ls2, st2, w2)) (k : av_go p l e R s m args below meth c D kk A ad M.2.2.1 cells slots Q pc2 ls2 st2 w2) : av_go p l e R s m args below meth c D kk A ad M.2.2.1 cells slots Q pc ls st w := by
  obtain ⟨hx, hb, hml, hown, hts, hK, hnm⟩ := Fx
  unfold av_alen at hs
  split at hs
  case h_2 => cases hs
  case h_1 =>
  rename_i a rest
  split at hs
  case h_2 => cases hs
  case h_1 =>
  rename_i t2 n f hc
  split at hs
  case isFalse => cases hs
  case isTrue h0 =>
  obtain ⟨ha, rfl, ht⟩ := h0
  cases hs
  intro H locs LS X
  have he := av_cW_get (ad := ad) (kk := kk) ha
  rw [hc] at he
  rcases (show t2 = 0 ∨ t2 = 1 ∨ t2 = 2 by omega) with rfl | rfl | rfl
  · exact va_alen (ws := av_cW ad kk w) hx hb hK.1 X.1 a 0 he rfl rfl hd (k H locs LS X)
  · exact va_alen (ws := av_cW ad kk w) hx hb hK.1 X.1 a 1 he rfl rfl hd (k H locs LS X)
  · exact va_alen (ws := av_cW ad kk w) hx hb hK.1 X.1 a 2 he rfl rfl hd (k H locs LS X)
theorem av_obj_ok2 {M : av_M} (Fx : av_Fx p m c s args D kk meth M) (hR : M.2.2.2.2.2.1 ≤ R.frames ∧ 35 * M.2.2.2.2.2.1 ≤ R.locals) {i : Nat} (hd : decode M.2.1 pc = .ok (.invokespecial i, len)) (hs : av_obj M.2.2.2.2.1 i M.2.2.2.2.2.1 len pc ls st w = some (pc2, ls2, st2, w2)) (k : av_go p l e R s m args below meth c D kk A ad M.2.2.1 cells slots Q pc2 ls2 st2 w2) : av_go p l e R s m args below meth c D kk A ad M.2.2.1 cells slots Q pc ls st w := by
  obtain ⟨hx, hb, hml, hown, hts, hK, hnm⟩ := Fx
  unfold av_obj at hs
  split at hs
  case h_2 => cases hs
  case h_1 =>
  rename_i a
  split at hs
  case isFalse => cases hs
  case isTrue h0 =>
  obtain ⟨hm, rfl, h1⟩ := h0
  cases hs
  intro H locs LS X
  have hlk := List.all_eq_true.mp av_objL_ok _ hm
  refine W.objInit hx hb hown (hts _ (av_inA_ws hlk)) (hts _ (av_inA_ws av_obj_ok.1)) (hts _ (av_inA_ws av_obj_ok.2)) rfl (by rw [hml]; exact X.2.2.2.2.1) rfl hd (by omega) ?_ (k H locs LS X)
  have h9 : (2 * (F0 m pc LS (List.map (av_cv ad) [Value.ref a])).monitorRoom + (([] : List Value).map fun v => v.category).sum) ≤ 8 := lv_room (Nat.le_of_ble_eq_true rfl)
  have h7 : (List.map (fun v => v.category) (List.map (av_cv ad) ([] : List Value))).sum = 0 := rfl
  omega
theorem av_mmx_ok {M : av_M} (Fx : av_Fx p m c s args D kk meth M) (hc0 : cells ≤ R.cells ∧ slots ≤ R.slots) (hR : M.2.2.2.2.2.1 ≤ R.frames ∧ 35 * M.2.2.2.2.2.1 ≤ R.locals) {i : Nat} (hd : decode M.2.1 pc = .ok (.invokestatic i, len)) (hs : av_mmx M.2.2.2.2.1 i M.2.2.2.2.2.1 len pc ls st w = some (pc2, ls2, st2, w2)) (k : av_go p l e R s m args below meth c D kk A ad M.2.2.1 cells slots Q pc2 ls2 st2 w2) : av_go p l e R s m args below meth c D kk A ad M.2.2.1 cells slots Q pc ls st w := by
  obtain ⟨hx, hb, hml, hown, hts, hK, hnm⟩ := Fx
  unfold av_mmx at hs
  split at hs
  case h_2 => cases hs
  case h_1 =>
  rename_i y x rest
  split at hs
  case h_2 => cases hs
  case h_1 =>
  rename_i b hmm
  split at hs
  case isFalse => cases hs
  case isTrue h0 =>
  obtain ⟨rfl, h1, h8⟩ := h0
  cases hs
  intro H locs LS X
  obtain ⟨g1, g2, g3, g4⟩ := av_mm_ok hmm
  have hsum : ((rest.map (av_cv ad)).map (fun v => v.category)).sum + 13 ≤ R.locals := by rw [av_cats]; omega
  cases b with
  | true => exact va_mmax hx hb (by rw [hml]; exact X.2.2.2.2.1.symm) hown (hts _ g1) (hts _ g2) (hts _ g4) (hts _ g3) (by omega) hsum hc0.1 hc0.2 hd (k H locs LS X)
  | false => exact va_mmin hx hb (by rw [hml]; exact X.2.2.2.2.1.symm) hown (hts _ g1) (hts _ g2) (hts _ g4) (hts _ g3) (by omega) hsum hc0.1 hc0.2 hd (k H locs LS X)
theorem av_ldc_ok {M : av_M} (Fx : av_Fx p m c s args D kk meth M) {i : Nat} (hd : decode M.2.1 pc = .ok (.ldc i, len)) (hs : av_ldc M.2.2.2.2.1 i len pc ls st w = some (pc2, ls2, st2, w2)) (k : av_go p l e R s m args below meth c D kk A ad M.2.2.1 cells slots Q pc2 ls2 st2 w2) : av_go p l e R s m args below meth c D kk A ad M.2.2.1 cells slots Q pc ls st w := by
  obtain ⟨hx, hb, hml, hown, hts, hK, hnm⟩ := Fx
  unfold av_ldc at hs
  split at hs
  case h_2 => cases hs
  case h_1 =>
  rename_i v hv
  exact av_push_ok (v := .int v) (fun (hl : len = 2) H locs LS rest X k => lv_ldc hx hb hown (hts _ (av_ki_ok hv)) (hl ▸ hd) k) hs k
theorem av_ldl_ok {M : av_M} (Fx : av_Fx p m c s args D kk meth M) {i : Nat} (hd : decode M.2.1 pc = .ok (.ldc2_w i, len)) (hs : av_ldl M.2.2.2.2.1 i len pc ls st w = some (pc2, ls2, st2, w2)) (k : av_go p l e R s m args below meth c D kk A ad M.2.2.1 cells slots Q pc2 ls2 st2 w2) : av_go p l e R s m args below meth c D kk A ad M.2.2.1 cells slots Q pc ls st w := by
  obtain ⟨hx, hb, hml, hown, hts, hK, hnm⟩ := Fx
  unfold av_ldl at hs
  split at hs
  case h_2 => cases hs
  case h_1 =>
  rename_i v hv
  exact av_push_ok (v := .long v) (fun (hl : len = 3) H locs LS rest X k => lv_ldc2 hx hb hown (hts _ (av_kl_ok hv)) (hl ▸ hd) k) hs k
theorem av_dup_ok {M : av_M} (Fx : av_Fx p m c s args D kk meth M) (hd : decode M.2.1 pc = .ok (.dup, len)) (hs : av_dup len pc ls st w = some (pc2, ls2, st2, w2)) (k : av_go p l e R s m args below meth c D kk A ad M.2.2.1 cells slots Q pc2 ls2 st2 w2) : av_go p l e R s m args below meth c D kk A ad M.2.2.1 cells slots Q pc ls st w := by
  obtain ⟨hx, hb, hml, hown, hts, hK, hnm⟩ := Fx
  unfold av_dup at hs
  split at hs
  case h_2 => cases hs
  case h_1 =>
  split at hs
  case isFalse => cases hs
  case isTrue h0 =>
  obtain ⟨rfl, hc⟩ := h0
  cases hs
  intro H locs LS X
  exact lv_dup hx hb hd (by rw [av_cat]; exact hc) (k H locs LS X)
theorem av_pop_ok {M : av_M} (Fx : av_Fx p m c s args D kk meth M) (hd : decode M.2.1 pc = .ok (.pop, len)) (hs : av_pop len pc ls st w = some (pc2, ls2, st2, w2)) (k : av_go p l e R s m args below meth c D kk A ad M.2.2.1 cells slots Q pc2 ls2 st2 w2) : av_go p l e R s m args below meth c D kk A ad M.2.2.1 cells slots Q pc ls st w := by
  obtain ⟨hx, hb, hml, hown, hts, hK, hnm⟩ := Fx
  unfold av_pop at hs
  split at hs
  case h_2 => cases hs
  case h_1 =>
  split at hs
  case isFalse => cases hs
  case isTrue h0 =>
  obtain ⟨rfl, hc⟩ := h0
  cases hs
  intro H locs LS X
  exact lv_pop hx hb hd (by rw [av_cat]; exact hc) (k H locs LS X)
theorem av_dup2_ok {M : av_M} (Fx : av_Fx p m c s args D kk meth M) (hd : decode M.2.1 pc = .ok (.dup2, len)) (hs : av_dup2 len pc ls st w = some (pc2, ls2, st2, w2)) (k : av_go p l e R s m args below meth c D kk A ad M.2.2.1 cells slots Q pc2 ls2 st2 w2) : av_go p l e R s m args below meth c D kk A ad M.2.2.1 cells slots Q pc ls st w := by
  obtain ⟨hx, hb, hml, hown, hts, hK, hnm⟩ := Fx
  unfold av_dup2 at hs
  split at hs
  case h_2 => cases hs
  case h_1 =>
  split at hs
  case isFalse => cases hs
  case isTrue h0 =>
  obtain ⟨rfl, hc, hc2⟩ := h0
  cases hs
  intro H locs LS X
  exact lv_dup2_11 hx hb hd (by rw [av_cat]; exact hc) (by rw [av_cat]; exact hc2) (k H locs LS X)
theorem av_ifn_ok {M : av_M} (Fx : av_Fx p m c s args D kk meth M) {off : Int} (hd : decode M.2.1 pc = .ok (.ifnull off, len)) (hs : av_ifn len pc ls st w = some (pc2, ls2, st2, w2)) (k : av_go p l e R s m args below meth c D kk A ad M.2.2.1 cells slots Q pc2 ls2 st2 w2) : av_go p l e R s m args below meth c D kk A ad M.2.2.1 cells slots Q pc ls st w := by
  obtain ⟨hx, hb, hml, hown, hts, hK, hnm⟩ := Fx
  unfold av_ifn at hs
  split at hs
  case h_2 => cases hs
  case h_1 =>
  split at hs
  case isFalse => cases hs
  case isTrue h0 =>
  subst h0
  cases hs
  intro H locs LS X
  exact lv_ifnull hx hb hd (k H locs LS X)
theorem av_sald_ok {M : av_M} (Fx : av_Fx p m c s args D kk meth M) (hX : av_SX s A ad w M) (h99 : M.2.2.2.2.1 = 99) (hd : decode M.2.1 pc = .ok (.iaload, len)) (hs : av_sald len pc ls st w = some (pc2, ls2, st2, w2)) (k : av_go p l e R s m args below meth c D kk A ad M.2.2.1 cells slots Q pc2 ls2 st2 w2) : av_go p l e R s m args below meth c D kk A ad M.2.2.1 cells slots Q pc ls st w := by
  obtain ⟨hx, hb, hml, hown, hts, hK, hnm⟩ := Fx
  obtain ⟨t2, L, xs, e1, e2, e3, e4⟩ := hX h99
  unfold av_sald at hs
  split at hs
  case h_2 => cases hs
  case h_1 =>
  rename_i i a rest
  split at hs
  case h_2 => cases hs
  case h_1 =>
  rename_i t3 n f hc
  split at hs
  case isFalse => cases hs
  case isTrue h0 =>
  obtain ⟨rfl, rfl, hin⟩ := h0
  rw [e1] at hc
  cases hc
  cases hs
  intro H locs LS X
  exact va_sld hx hb e2 e3 e4 X.2.2.1 (av_inr_ok hin) hd (k H locs LS X)
theorem av_slen_ok {M : av_M} (Fx : av_Fx p m c s args D kk meth M) (hX : av_SX s A ad w M) (h99 : M.2.2.2.2.1 = 99) (hd : decode M.2.1 pc = .ok (.arraylength, len)) (hs : av_slen len pc ls st w = some (pc2, ls2, st2, w2)) (k : av_go p l e R s m args below meth c D kk A ad M.2.2.1 cells slots Q pc2 ls2 st2 w2) : av_go p l e R s m args below meth c D kk A ad M.2.2.1 cells slots Q pc ls st w := by
  obtain ⟨hx, hb, hml, hown, hts, hK, hnm⟩ := Fx
  obtain ⟨t2, L, xs, e1, e2, e3, e4⟩ := hX h99
  unfold av_slen at hs
  split at hs
  case h_2 => cases hs
  case h_1 =>
  rename_i a rest
  split at hs
  case h_2 => cases hs
  case h_1 =>
  rename_i t3 n f hc
  split at hs
  case isFalse => cases hs
  case isTrue h0 =>
  obtain ⟨rfl, rfl⟩ := h0
  rw [e1] at hc
  cases hc
  cases hs
  intro H locs LS X
  exact va_slen hx hb e2 e3 e4 X.2.2.1 hd (k H locs LS X)
end AVS
