/-! ===== the machine is sound, 4: whole runs ===== -/
theorem av_ns_shape {w : Cond} (h : w ∈ av_ns) : (∃ a i x h, w = .methodLinkNest a i x h) ∨ (∃ a i b n d h, w = .fieldLinkNest a i b n d h) ∨ ∃ C, w = .arrayOver (.object C) := by
  have h1 := (List.mem_filter.mp h).2
  split at h1
  · exact Or.inl ⟨_, _, _, _, rfl⟩
  · exact Or.inr (Or.inl ⟨_, _, _, _, _, _, rfl⟩)
  · exact Or.inr (Or.inr ⟨_, rfl⟩)
  · cases h1
theorem av_K.warm {D : va_G} {kk : Nat → ClassId} {s U : State} (hW : s.WarmedH U.vm) (h : av_K D kk s) : av_K D kk U := by
  refine ⟨va_K.moved hW.alike h.1, fun w hw => ?_⟩
  have h1 := h.2 w hw
  rcases av_ns_shape hw with ⟨a, i, x, h, rfl⟩ | ⟨a, i, b, n, d, h, rfl⟩ | ⟨C, rfl⟩
  · exact va_Nw.warmM hW h1
  · exact va_Nw.warmF hW h1
  · exact va_AO.moved hW.alike h1
theorem av_K.call {D : va_G} {kk : Nat → ClassId} {U : State} {g : JFrame} {mk : MethodId} {a : Array Value} (h : av_K D kk U) : av_K D kk (U.calling g mk a) := by
  refine ⟨va_K.moved (u := U) (U := U.calling g mk a) (Vm.Alike.refl U.vm) h.1, fun w hw => ?_⟩
  have h1 := h.2 w hw
  rcases av_ns_shape hw with ⟨a, i, x, h, rfl⟩ | ⟨a, i, b, n, d, h, rfl⟩ | ⟨C, rfl⟩
  · exact va_Nw.same (u := U) rfl rfl h1
  · exact va_Nw.same (u := U) rfl rfl h1
  · exact va_AO.moved (u := U) (U := U.calling g mk a) (Vm.Alike.refl U.vm) h1
theorem av_ws_good : GoodIn av_ws av_ws := fun w hw => ⟨hw, good_of_word (List.mem_filter.mp hw).2⟩
theorem av_code_in {M : av_M} (hM : M ∈ av_MT) : GoodIn av_ws (Cond.code M.1 M.2.1 M.2.2.1 M.2.2.2.1 :: av_ws) := by
  intro w hw
  rcases List.mem_cons.mp hw with rfl | h
  · exact av_ws_good _ (av_code_ws M hM)
  · exact av_ws_good _ h
theorem av_okM_at {M : av_M} (hM : M ∈ av_MT) : plainName M.1.cls = true ∧ M.1.cls = av_R M.2.2.2.2.1 ∧ Cond.initialized M.1.cls ∈ av_ws ∧ (M.1.cls ≠ "java/lang/invoke/MethodHandle" ∧ M.1.cls ≠ "java/lang/invoke/VarHandle") ∧ (parseMethodDescriptor M.1.desc).map (fun d => d.parameters.length) = some M.2.2.2.2.2.2 ∧ M.2.2.1 ≤ 16 ∧ (M.2.2.2.2.1 < 5 ∨ M.2.2.2.2.1 = 99) := by
  obtain ⟨i, hi⟩ := List.getElem?_of_mem hM
  have hlt : i < av_MT.length := (List.getElem?_eq_some_iff.mp hi).1
  have hlt2 : i < av_inip.length := by rw [← av_MT_len]; exact hlt
  have hz : (av_MT.zip av_inip)[i]? = some (M, av_inip[i]) := by
    rw [List.getElem?_zip_eq_some]
    exact ⟨hi, List.getElem?_eq_getElem hlt2⟩
  have h := List.all_eq_true.mp av_MT_ok _ (List.mem_of_getElem? hz)
  simp only [av_okM, Bool.and_eq_true, Bool.or_eq_true, decide_eq_true_eq, beq_iff_eq] at h
  obtain ⟨⟨⟨⟨⟨⟨⟨h1, h2⟩, h3⟩, h4⟩, h5⟩, h6⟩, h7⟩, h8⟩ := h
  exact ⟨h1, h2, av_inT_ws h3, ⟨h4, h5⟩, h6, h7, h8⟩
theorem av_res_ok {own i k : Nat} {M : av_M} (hf : av_res own i = some (k, M)) : M ∈ av_MT ∧ ∃ (host : String), (match k with
    | 0 => Cond.methodLink (av_R own) i M.1 ∈ av_ws ∧ Cond.instanceMethod M.1 ∈ av_ws ∧ Cond.selects M.1.cls M.1 M.1 ∈ av_ws
    | 1 => Cond.methodLinkNest (av_R own) i M.1 host ∈ av_ns ∧ Cond.instanceMethod M.1 ∈ av_ws ∧ Cond.selects M.1.cls M.1 M.1 ∈ av_ws
    | 2 => Cond.methodLink (av_R own) i M.1 ∈ av_ws ∧ Cond.static M.1 ∈ av_ws ∧ True
    | 3 => Cond.methodLinkNest (av_R own) i M.1 host ∈ av_ns ∧ Cond.static M.1 ∈ av_ws ∧ True
    | 4 => Cond.methodLink (av_R own) i M.1 ∈ av_ws ∧ Cond.instanceMethod M.1 ∈ av_ws ∧ (M.1.name = "<init>" ∧ M.2.2.2.1 = none)
    | 5 => Cond.methodLinkNest (av_R own) i M.1 host ∈ av_ns ∧ Cond.instanceMethod M.1 ∈ av_ws ∧ (M.1.name = "<init>" ∧ M.2.2.2.1 = none)
    | _ => False) := by
  unfold av_res at hf
  rw [Option.bind_eq_some_iff] at hf
  obtain ⟨q, h1, h2⟩ := hf
  rw [Option.map_eq_some_iff] at h2
  obtain ⟨M2, h5, h6⟩ := h2
  have h3 := List.find?_some h1
  have h4 := List.all_eq_true.mp av_resL_ok q (List.mem_of_find?_eq_some h1)
  obtain ⟨o, j, c2, mid, host, p1, p2, p3⟩ := q
  cases h6
  simp only [Bool.and_eq_true, beq_iff_eq] at h3
  obtain ⟨rfl, rfl⟩ := h3
  refine ⟨List.mem_of_getElem? h5, host, ?_⟩
  unfold av_okR at h4
  rw [h5] at h4
  match c2, h4 with
  | 0, h4 =>
    simp only [Bool.and_eq_true] at h4
    exact ⟨av_inT_ws h4.1.1, av_inT_ws h4.1.2, av_inT_ws h4.2⟩
  | 1, h4 =>
    simp only [Bool.and_eq_true] at h4
    exact ⟨av_inN_ns h4.1.1, av_inT_ws h4.1.2, av_inT_ws h4.2⟩
  | 2, h4 =>
    simp only [Bool.and_eq_true] at h4
    exact ⟨av_inT_ws h4.1, av_inT_ws h4.2, trivial⟩
  | 3, h4 =>
    simp only [Bool.and_eq_true] at h4
    exact ⟨av_inN_ns h4.1, av_inT_ws h4.2, trivial⟩
  | 4, h4 =>
    simp only [Bool.and_eq_true, beq_iff_eq, decide_eq_true_eq] at h4
    exact ⟨av_inT_ws h4.1.1.1, av_inT_ws h4.1.1.2, h4.1.2, h4.2⟩
  | 5, h4 =>
    simp only [Bool.and_eq_true, beq_iff_eq, decide_eq_true_eq] at h4
    exact ⟨av_inN_ns h4.1.1.1, av_inT_ws h4.1.1.2, h4.1.2, h4.2⟩
  | k + 6, h4 => cases h4
theorem av_cut_ok {M M2 : av_M} {len idx k : Nat} {ks : List Nat} {stat : Bool} {st as rest : List Value} (h : av_cut M len idx ks stat st = some (k, M2, as, rest)) :
    len = 3 ∧ k ∈ ks ∧ av_res M.2.2.2.2.1 idx = some (k, M2) ∧ M2.2.2.2.2.2.1 < M.2.2.2.2.2.1 ∧ as.length = M2.2.2.2.2.2.2 + (if stat then 0 else 1) ∧ (rest.map (fun v => v.category)).sum ≤ 8 ∧ st = as.reverse ++ rest := by
  unfold av_cut at h
  split at h
  case h_2 => cases h
  case h_1 =>
  rename_i k0 M0 hres
  dsimp only at h
  obtain ⟨⟨h1, h2, h3, h4, h5⟩, h6⟩ := Option.ite_none_right_eq_some.mp h
  cases h6
  refine ⟨h1, h2, hres, h3, ?_, h5, ?_⟩
  · rw [List.length_reverse, List.length_take]
    omega
  · rw [List.reverse_reverse, List.take_append_drop]
def av_snd (l : Launch) (f : Nat) : Prop := ∀ (M : av_M) (pc : Nat) (ls : av_L) (st : List Value) (w : av_W) (r : Option Value) (wF : av_W), arun f M pc ls st w = some (r, wF) →
  ∀ (p : Program) (e : Env) (R : Room) (s : State) (m : MethodId) (args : Array Value) (below : List Frame) (meth : Method) (c : Code) (D : va_G) (kk : Nat → ClassId) (A : Nat → Prop) (ad : Nat → Nat) (cells slots mc ms : Nat) (Q : State → Prop),
    w.1 ≤ 1000 → av_Fx p m c s args D kk meth M → av_SX s A ad w M → (∀ q, s.heap.size ≤ q → A q) → (M.2.2.2.2.2.1 ≤ R.frames ∧ 35 * M.2.2.2.2.2.1 ≤ R.locals) → (cells + (wF.1 - w.1) ≤ mc ∧ slots + (wF.2.1 - w.2.1) ≤ ms) → (mc ≤ R.cells ∧ ms ≤ R.slots) →
    (∀ (ad2 : Nat → Nat) (pc2 len : Nat) (i : Instr) (st2 : List Value) (ls2 : av_L) (cells2 slots2 : Nat), av_agr w.1 ad ad2 → (wF.1 = w.1 → ad2 = ad) → decode M.2.1 pc2 = .ok (i, len) → av_ret M i len st2 = some r → (cells2 ≤ mc ∧ slots2 ≤ ms) → av_go p l e R s m args below meth c D kk A ad2 M.2.2.1 cells2 slots2 Q pc2 ls2 st2 wF) →
    av_go p l e R s m args below meth c D kk A ad M.2.2.1 cells slots Q pc ls st w
/-- the contract of a method out of a run of the machine -/
theorem av_met {l : Launch} {f : Nat} (IH : av_snd l f) {M : av_M} (hM : M ∈ av_MT) {as : List Value} {w w2 : av_W} (hw : w.1 ≤ 1000) {r : Option Value} (h : arun f M 0 (av_ent as M.2.2.1) [] w = some (r, w2)) (hents : (av_ents as).length ≤ M.2.2.1) (D : va_G) (kk : Nat → ClassId) (ad : Nat → Nat) (sz : Nat) :
    Met l M.1 (Cond.code M.1 M.2.1 M.2.2.1 M.2.2.2.1 :: av_ws) (av_rm M (w2.1 - w.1) (w2.2.1 - w.2.1)) (va_Pc (as.map (av_cv ad)) (av_Pc D kk ad w sz (M.2.2.2.2.1 = 99))) (av_Qc D kk ad w w2 r (va_A (av_cW ad kk w) sz)) (w2.1 - w.1) (w2.2.1 - w.2.1) (va_A (av_cW ad kk w) sz) := by
  obtain ⟨o1, o2, o3, o4, o5, o6, o7⟩ := av_okM_at hM
  refine Met.ofW (cc := M.2.1) (maxL := M.2.2.1) (ret := M.2.2.2.1) o1 rfl ?_
  intro p e s m args below meth c s₁ B hml hv
  obtain ⟨rfl, hsz, hP, hK, hD0, hX9⟩ := hv
  have hts := atoms_spec (ws := Cond.code M.1 M.2.1 M.2.2.1 M.2.2.2.1 :: av_ws) B.pre
  have hown : s.vm.findClass (av_R M.2.2.2.2.1) = some m.cls := o2 ▸ findClass_of_methodNamed B.named
  have hnm : av_isInit M = true → meth.name = "<init>" := fun h => by
    rw [(name_of_methodNamed B.named B.method).1]
    simpa [av_isInit] using h
  subst hsz
  have hD := hD0.self (sz := s.heap.size)
  rw [lg_entry_eq]
  have hgo := IH M 0 (av_ent as M.2.2.1) [] w r w2 h p e (headSpec (Cond.code M.1 M.2.1 M.2.2.1 M.2.2.2.1 :: av_ws) (av_rm M (w2.1 - w.1) (w2.2.1 - w.2.1))).room s m (as.map (av_cv ad)).toArray below meth c D kk (va_A (av_cW ad kk w) s.heap.size) ad 0 0 (w2.1 - w.1) (w2.2.1 - w.2.1)
    (MQ below (av_Qc D kk ad w w2 r (va_A (av_cW ad kk w) s.heap.size)) (as.map (av_cv ad)).toArray s (w2.1 - w.1) (w2.2.1 - w.2.1) (va_A (av_cW ad kk w) s.heap.size))
    hw ⟨B.exec, B.bytes, hml, hown, fun w h => hts w (List.mem_cons_of_mem _ h), hK, hnm⟩ (fun h99 => hX9 h99) (fun q h => Or.inr h) ⟨Nat.le_refl _, Nat.le_refl _⟩ ⟨by omega, by omega⟩ ⟨Nat.le_refl _, Nat.le_refl _⟩
    (fun ad2 pc2 len i st2 ls2 cells2 slots2 h1 h2 h3 h4 h5 => av_ret_ok ⟨B.exec, B.bytes, hml, hown, fun w h => hts w (List.mem_cons_of_mem _ h), hK, hnm⟩ B.notSynchronized B.returns h3 h4 h5 (fun H locs t g1 g2 g3 g4 g5 => ⟨⟨ad2, h1, h2, rfl, by rw [g4]; exact g1, g2⟩, by rw [g4]; exact g3.1, by rw [g4]; exact g3.2.1⟩) (fun q h => h))
  exact hgo s.heap [] _ ⟨hP, hD, va_S.rf, av_ent_LH ad as M.2.2.1 hents⟩
theorem av_call_ok {l : Launch} {f : Nat} (IH : av_snd l f) {p : Program} {e : Env} {R : Room} {s : State} {m : MethodId} {args : Array Value} {below : List Frame} {meth : Method} {c : Code} {cells slots : Nat} {Q : State → Prop} {D : va_G} {kk : Nat → ClassId} {A : Nat → Prop} {ad : Nat → Nat} {len pc k : Nat} {ls : av_L} {st as rest : List Value} {w w2 : av_W} {M M2 : av_M} {i : Instr} {r : Option Value}
    (hw : w.1 ≤ 1000) (Fx : av_Fx p m c s args D kk meth M) (hX : av_SX s A ad w M) (hA : ∀ q, s.heap.size ≤ q → A q) (hR : M.2.2.2.2.2.1 ≤ R.frames ∧ 35 * M.2.2.2.2.2.1 ≤ R.locals) (hd : decode M.2.1 pc = .ok (i, len)) (hi : av_inv M i len st = some (k, M2, as, rest)) (hrc : av_rcv k M2 as w = true) (hents : (av_ents as).length ≤ M2.2.2.1) (h3 : arun f M2 0 (av_ent as M2.2.2.1) [] w = some (r, w2)) (hback : av_back ls rest w w2 = true)
    (hc : cells + (w2.1 - w.1) ≤ R.cells ∧ slots + (w2.2.1 - w.2.1) ≤ R.slots)
    (kx : ∀ ad2 : Nat → Nat, av_agr w.1 ad ad2 → (w2.1 = w.1 → ad2 = ad) → av_go p l e R s m args below meth c D kk A ad2 M.2.2.1 (cells + (w2.1 - w.1)) (slots + (w2.2.1 - w.2.1)) Q (pc + 3) ls (r.toList ++ rest) w2) :
    av_go p l e R s m args below meth c D kk A ad M.2.2.1 cells slots Q pc ls st w := by
  obtain ⟨hx, hb, hml, hown, hts, hK, hnm⟩ := Fx
  intro H locs LS X
  have hblind : ∀ (v : List Value), FrameBlind (va_Pc v (av_Pc D kk ad w H.size (M2.2.2.2.2.1 = 99))) := fun v a U g mk q => ⟨q.1, q.2.1, q.2.2.1, q.2.2.2.1.call, q.2.2.2.2.1, fun h => by
    obtain ⟨t, L, xs, e1, e2, e3, e4⟩ := q.2.2.2.2.2 h
    exact ⟨t, L, xs, e1, va_X.moved (u := U) (U := U.calling g mk a) (Vm.Alike.refl U.vm) e2, e3, e4⟩⟩
  have h99M : M2.2.2.2.2.1 = 99 → M.2.2.2.2.1 = 99 := by
    intro h9
    have hcutx : ∃ (idx : Nat) (ks : List Nat) (stat : Bool), av_cut M len idx ks stat st = some (k, M2, as, rest) := by
      unfold av_inv at hi
      split at hi
      · exact ⟨_, _, _, hi⟩
      · exact ⟨_, _, _, hi⟩
      · exact ⟨_, _, _, hi⟩
      · cases hi
    obtain ⟨idx, ks, stat, hcut⟩ := hcutx
    rcases av_res_99 (av_cut_ok hcut).2.2.1 with q | q
    · omega
    · exact q.1
  have hpre : ∀ U : State, U.heap = H → s.WarmedH U.vm → va_Pc (as.map (av_cv ad)) (av_Pc D kk ad w H.size (M2.2.2.2.2.1 = 99)) (as.map (av_cv ad)).toArray U := fun U hU hW => ⟨rfl, by rw [hU], by rw [hU]; exact X.1, hK.warm hW, X.2.1.weaken (fun _ _ _ _ => trivial), fun h9 => by
    obtain ⟨t, L, xs, e1, e2, e3, e4⟩ := hX (h99M h9)
    have hlt : ad av_scr < H.size := Nat.lt_of_lt_of_le e3 X.2.2.1.1
    refine ⟨t, L, xs, e1, ?_, hlt, fun q => ?_⟩
    · rw [hU]
      exact va_X.moved hW.alike (va_X.kept e2 (X.2.2.1.2.1 _ e3 e4))
    · rcases q with ⟨k2, e2x, q⟩ | q
      · exact e4 (X.2.1.2 k2 _ q)
      · omega⟩
  have S : CallFix p m c M.2.1 M.2.2.1 s args av_ws (av_R M.2.2.2.2.1) := ⟨hx, hb, hml, hown, hts⟩
  have hsz : LS.size = M.2.2.1 := X.2.2.2.2.1
  have room : ∀ M3 : av_M, M3 ∈ av_MT → M3.2.2.2.2.2.1 < M.2.2.2.2.2.1 → (av_rm M3 (w2.1 - w.1) (w2.2.1 - w.2.1)).frames + 1 ≤ R.frames ∧ 8 + (M3.2.2.1 + 11) + (av_rm M3 (w2.1 - w.1) (w2.2.1 - w.2.1)).locals ≤ R.locals := fun M3 h4 h5 => by
    have := (av_okM_at h4).2.2.2.2.2.1
    unfold av_rm
    dsimp only
    omega
  have fin := fun (hr : va_Run p l e R s m args below meth c H locs cells slots (w2.1 - w.1) (w2.2.1 - w.2.1) (F0 m pc LS (st.map (av_cv ad))) (rest.map (av_cv ad)) (av_Qc D kk ad w w2 r (va_A (av_cW ad kk w) H.size) (as.map (av_cv ad)).toArray) (va_A (av_cW ad kk w) H.size)) => av_after hr X hA hback kx
  have base : ∀ idx : Nat, av_res M.2.2.2.2.1 idx = some (k, M2) → M2 ∈ av_MT → (∀ sig, parseMethodDescriptor M2.1.desc = some sig → M2.2.2.2.2.2.2 = sig.parameters.length) ∧ (Cond.code M2.1 M2.2.1 M2.2.2.1 M2.2.2.2.1).before args s = true ∧ (Cond.initialized M2.1.cls).before args s = true := fun idx h1 h2 => by
    obtain ⟨o1, o2, o3, o4, o5, o6, o7⟩ := av_okM_at h2
    exact ⟨fun sig hs => by rw [hs] at o5; exact (Option.some.inj o5).symm, hts _ (av_code_ws M2 h2), hts _ o3⟩
  have hres0 : ∃ (idx : Nat) (ks : List Nat) (stat : Bool), av_cut M len idx ks stat st = some (k, M2, as, rest) ∧ ((i = .invokevirtual idx ∧ ks = [0, 1] ∧ stat = false) ∨ (i = .invokestatic idx ∧ ks = [2, 3] ∧ stat = true) ∨ (i = .invokespecial idx ∧ ks = [4, 5] ∧ stat = false)) := by
    unfold av_inv at hi
    split at hi
    · exact ⟨_, _, _, hi, Or.inl ⟨rfl, rfl, rfl⟩⟩
    · exact ⟨_, _, _, hi, Or.inr (Or.inl ⟨rfl, rfl, rfl⟩)⟩
    · exact ⟨_, _, _, hi, Or.inr (Or.inr ⟨rfl, rfl, rfl⟩)⟩
    · cases hi
  obtain ⟨idx, ks, stat, hcut, hcase⟩ := hres0
  obtain ⟨rfl, hk, hres, hlt, hlen, hsum, hst⟩ := av_cut_ok hcut
  obtain ⟨hM2, host, hwords⟩ := av_res_ok hres
  obtain ⟨o1, o2, o3, o4, o5, o6, o7⟩ := av_okM_at hM2
  obtain ⟨b1, b2, b3⟩ := base idx hres hM2
  have hmet := av_met IH hM2 hw h3 hents D kk ad H.size
  have hrm := room M2 hM2 hlt
  have hsum2 : 2 * (F0 m pc LS (st.map (av_cv ad))).monitorRoom + ((rest.map (av_cv ad)).map fun v => v.category).sum ≤ 8 := lv_room (by rw [av_cats]; exact hsum)
  have hCB : ∀ link : Cond, link.before args s = true → ((av_rm M2 (w2.1 - w.1) (w2.2.1 - w.2.1)).cells = w2.1 - w.1 ∧ (av_rm M2 (w2.1 - w.1) (w2.2.1 - w.2.1)).slots = w2.2.1 - w.2.1 ∧ (av_rm M2 (w2.1 - w.1) (w2.2.1 - w.2.1)).frames + 1 ≤ R.frames ∧ 8 + (M2.2.2.1 + 11) + (av_rm M2 (w2.1 - w.1) (w2.2.1 - w.2.1)).locals ≤ R.locals ∧ (∀ w ∈ (Cond.code M2.1 M2.2.1 M2.2.2.1 M2.2.2.2.1 :: av_ws), ∀ (a' : Array Value) (U : State), s.WarmedH U.vm → w.before a' U = true) ∧ Cond.code M2.1 M2.2.1 M2.2.2.1 M2.2.2.2.1 ∈ (Cond.code M2.1 M2.2.1 M2.2.2.1 M2.2.2.2.1 :: av_ws)) ∧ link.before args s = true := fun link h => ⟨⟨rfl, rfl, hrm.1, hrm.2, pay_in hts (av_code_in hM2), List.mem_cons_self⟩, h⟩
  rcases hcase with ⟨rfl, rfl, rfl⟩ | ⟨rfl, rfl, rfl⟩ | ⟨rfl, rfl, rfl⟩
  · have hrcv : ∃ (b : Nat) (As : List Value), as = .ref b :: As ∧ b < w.1 ∧ ∃ fs, w.2.2 b = .inr (M2.2.2.2.2.1, fs) := by
      unfold av_rcv at hrc
      split at hrc
      · simp at hk
      · simp at hk
      · simp at hk
      · simp at hk
      · rename_i b As h4 h5 h6 h7
        simp only [Bool.and_eq_true, decide_eq_true_eq] at hrc
        obtain ⟨g1, g2⟩ := hrc
        split at g2
        · rename_i q hq
          refine ⟨_, _, rfl, g1, q.2, ?_⟩
          rw [hq]
          have : q.1 = M2.2.2.2.2.1 := by simpa using g2
          rw [← this]
        · cases g2
      · cases hrc
    obtain ⟨b, As, rfl, hbw, fs, hfs⟩ := hrcv
    have o7v : M2.2.2.2.2.1 < 5 := by
      rcases av_res_99 hres with q | q
      · exact q
      · rw [q.2.1] at hk
        simp at hk
    have he := av_cW_get (ad := ad) (kk := kk) hbw
    rw [hfs] at he
    have hrecv := va_recv (ws := av_cW ad kk w) hK.1 X.1 (av_cl _ o7v) he
    have hn : (As.map (av_cv ad)).length = M2.2.2.2.2.2.2 := by
      rw [List.length_map]
      simp at hlen
      omega
    have hstk : (F0 m pc LS (st.map (av_cv ad))).stack = (As.map (av_cv ad)).reverse ++ .ref (ad b) :: rest.map (av_cv ad) := by
      show st.map (av_cv ad) = _
      rw [hst, List.map_append, List.map_reverse, List.map_cons, List.reverse_cons, List.append_assoc]
      rfl
    rcases (show k = 0 ∨ k = 1 by simpa using hk) with rfl | rfl
    · obtain ⟨w1, w2x, w3⟩ := hwords
      obtain ⟨c1, c2, c3, c4, c5, c6⟩ := (hCB _ (hts _ w1)).1
      exact fin (va_runV (C := av_R M2.2.2.2.2.1) S hmet ⟨⟨c1, c2, c3, c4, c5, c6, b2, b3, o4, b1, hts _ w1⟩, hts _ w2x, o2 ▸ hts _ w3⟩ ⟨hblind _, hrecv, hpre⟩ rfl hn hsz hstk hsum2 hd hc)
    · obtain ⟨w1, w2x, w3⟩ := hwords
      obtain ⟨c1, c2, c3, c4, c5, c6⟩ := (hCB _ (va_Nw.use (A := args) rfl (hK.2 _ w1))).1
      exact fin (va_runVN (C := av_R M2.2.2.2.2.1) (host := host) S hmet ⟨⟨⟨c1, c2, c3, c4, c5, c6⟩, b2, b3, o4, b1, va_Nw.use rfl (hK.2 _ w1)⟩, hts _ w2x, o2 ▸ hts _ w3⟩ ⟨hblind _, hrecv, hpre⟩ rfl hn hsz hstk hsum2 hd hc)
  · have hn : (as.map (av_cv ad)).length = M2.2.2.2.2.2.2 := by
      rw [List.length_map]
      simpa using hlen
    have hstk : (F0 m pc LS (st.map (av_cv ad))).stack = (as.map (av_cv ad)).reverse ++ rest.map (av_cv ad) := by
      show st.map (av_cv ad) = _
      rw [hst, List.map_append, List.map_reverse]
    rcases (show k = 2 ∨ k = 3 by simpa using hk) with rfl | rfl
    · obtain ⟨w1, w2x, w3⟩ := hwords
      obtain ⟨c1, c2, c3, c4, c5, c6⟩ := (hCB _ (hts _ w1)).1
      exact fin (va_runS S hmet ⟨⟨c1, c2, c3, c4, c5, c6, b2, b3, o4, b1, hts _ w1⟩, hts _ w2x⟩ ⟨hblind _, hpre⟩ rfl hn hsz hstk hsum2 hd hc)
    · obtain ⟨w1, w2x, w3⟩ := hwords
      obtain ⟨c1, c2, c3, c4, c5, c6⟩ := (hCB _ (va_Nw.use (A := args) rfl (hK.2 _ w1))).1
      exact fin (va_runSN (host := host) S hmet ⟨⟨⟨c1, c2, c3, c4, c5, c6⟩, b2, b3, o4, b1, va_Nw.use rfl (hK.2 _ w1)⟩, hts _ w2x, trivial⟩ ⟨hblind _, hpre⟩ rfl hn hsz hstk hsum2 hd hc)
  · have hrcv : ∃ (b : Nat) (As : List Value), as = .ref b :: As := by
      rcases (show k = 4 ∨ k = 5 by simpa using hk) with rfl | rfl
      · cases as with
        | nil => simp [av_rcv] at hrc
        | cons v vs => cases v <;> simp [av_rcv] at hrc ⊢
      · cases as with
        | nil => simp [av_rcv] at hrc
        | cons v vs => cases v <;> simp [av_rcv] at hrc ⊢
    obtain ⟨b, As, rfl⟩ := hrcv
    have hn : (As.map (av_cv ad)).length = M2.2.2.2.2.2.2 := by
      rw [List.length_map]
      simp at hlen
      omega
    have hstk : (F0 m pc LS (st.map (av_cv ad))).stack = (As.map (av_cv ad)).reverse ++ .ref (ad b) :: rest.map (av_cv ad) := by
      show st.map (av_cv ad) = _
      rw [hst, List.map_append, List.map_reverse, List.map_cons, List.reverse_cons, List.append_assoc]
      rfl
    rcases (show k = 4 ∨ k = 5 by simpa using hk) with rfl | rfl
    · obtain ⟨w1, w2x, w3, w4⟩ := hwords
      obtain ⟨c1, c2, c3, c4, c5, c6⟩ := (hCB _ (hts _ w1)).1
      rw [w4] at hmet c5 c6 b2
      exact fin (va_runI S hmet ⟨⟨c1, c2, c3, c4, c5, c6, b2, b3, o4, b1, hts _ w1⟩, w3, hts _ w2x⟩ ⟨hblind _, hpre⟩ rfl hn hsz hstk hsum2 hd hc)
    · obtain ⟨w1, w2x, w3, w4⟩ := hwords
      obtain ⟨c1, c2, c3, c4, c5, c6⟩ := (hCB _ (va_Nw.use (A := args) rfl (hK.2 _ w1))).1
      rw [w4] at hmet c5 c6 b2
      exact fin (va_runIN (host := host) S hmet ⟨⟨⟨c1, c2, c3, c4, c5, c6⟩, b2, b3, o4, b1, va_Nw.use rfl (hK.2 _ w1)⟩, w3, hts _ w2x⟩ ⟨hblind _, hpre⟩ rfl hn hsz hstk hsum2 hd hc)
set_option maxHeartbeats 4000000 in
theorem av_sound (l : Launch) : ∀ f : Nat, av_snd l f := by
  intro f
  induction f with
  | zero =>
    intro M pc ls st w r wF h
    cases h
  | succ f ih =>
    intro M pc ls st w r wF h p e R s m args below meth c D kk A ad cells slots mc ms Q hw Fx hX hA hR hc hm hend
    have hmo := av_mo _ _ _ _ _ _ _ _ h
    unfold arun at h
    split at h
    case h_2 => cases h
    case h_1 =>
    rename_i i len hd
    split at h
    case h_1 =>
      rename_i hr
      cases h
      exact hend ad pc len i st ls cells slots (fun _ _ => rfl) (fun _ => rfl) hd hr ⟨by omega, by omega⟩
    case h_2 =>
    split at h
    case h_2 =>
      split at h
      case h_2 => cases h
      case h_1 =>
      rename_i pc2 ls2 st2 w2 hs
      have q1 := av_step_mo hs
      have q2 := av_mo _ _ _ _ _ _ _ _ h
      refine av_step_ok Fx hX hA hR hd hs ⟨by omega, by omega⟩ (fun ad2 ha hb => ?_)
      have hX2 : av_SX s A ad2 w2 M := by
        intro h99
        obtain ⟨t, L, xs, e1, e2, e3, e4⟩ := hX h99
        have hs2 := ha av_scr (Or.inr rfl)
        exact ⟨t, L, xs, (av_step_sc hw hs).2.trans e1, hs2 ▸ e2, hs2 ▸ e3, hs2 ▸ e4⟩
      exact ih M pc2 ls2 st2 w2 r wF h p e R s m args below meth c D kk A ad2 _ _ mc ms Q (av_step_sc hw hs).1 Fx hX2 hA hR ⟨by omega, by omega⟩ hm (fun ad3 pc3 len3 i3 st3 ls3 c3 s3 h1 h2 h3 h4 h5 => hend ad3 pc3 len3 i3 st3 ls3 c3 s3 (fun k hk => (h1 k (by omega)).trans (ha k hk)) (fun hz => by rw [h2 (by omega), hb (by omega)]) h3 h4 h5)
    case h_1 =>
      rename_i k M2 as rest hi
      split at h
      case isFalse => cases h
      case isTrue hrc =>
      split at h
      case h_2 => cases h
      case h_1 =>
      rename_i r2 w2 h3
      split at h
      case isFalse => cases h
      case isTrue hback =>
      have q1 := av_mo _ _ _ _ _ _ _ _ h3
      have q2 := av_mo _ _ _ _ _ _ _ _ h
      have q3 := av_sc _ _ _ _ _ _ _ _ hw h3
      refine av_call_ok ih hw Fx hX hA hR hd hi hrc.1 hrc.2 h3 hback ⟨by omega, by omega⟩ (fun ad2 ha hb => ?_)
      have hX2 : av_SX s A ad2 w2 M := by
        intro h99
        obtain ⟨t, L, xs, e1, e2, e3, e4⟩ := hX h99
        have hs2 := ha av_scr (Or.inr rfl)
        exact ⟨t, L, xs, q3.2.trans e1, hs2 ▸ e2, hs2 ▸ e3, hs2 ▸ e4⟩
      exact ih M (pc + 3) ls _ w2 r wF h p e R s m args below meth c D kk A ad2 _ _ mc ms Q q3.1 Fx hX2 hA hR ⟨by omega, by omega⟩ hm (fun ad3 pc3 len3 i3 st3 ls3 c3 s3 h1 h2 h3 h4 h5 => hend ad3 pc3 len3 i3 st3 ls3 c3 s3 (fun k hk => (h1 k (by omega)).trans (ha k hk)) (fun hz => by rw [h2 (by omega), hb (by omega)]) h3 h4 h5)
