/-! rules for the law's own pieces, and its small helpers -/
section LAW1
variable {M M2 : av_M} {pc pc2 len : Nat} {ls ls2 : av_L} {st st2 rest args : List Value} {w w2 : av_W} {P : Option Value → av_W → Prop} {i : Instr}
theorem r_slen {t L : Nat} {xs : Nat → Int32} (d : decode M.2.1 pc = .ok (.arraylength, 1)) (e : pc + 1 = pc2) (h99 : M.2.2.2.2.1 = 99) (hw : w.2.2 av_scr = .inl (t, L, .inl xs)) (n : rn M pc2 ls (.int (iN (L : Int)) :: st) w P) : rn M pc ls (.ref av_scr :: st) w P := by
  subst e
  refine rn_step d rfl rfl ?_ n
  show (if M.2.2.2.2.1 = 99 then av_slen 1 pc ls (.ref av_scr :: st) w else av_alen 1 pc ls (.ref av_scr :: st) w) = _
  rw [if_pos h99]
  unfold av_slen
  dsimp only
  rw [hw]
  dsimp only
  rw [if_pos ⟨rfl, rfl⟩, show Int32.ofNat L = iN (L : Int) from (Int32.ofInt_eq_ofNat).symm]
theorem av_inr_s {x : Int} {n : Nat} (h0 : 0 ≤ x) (hx : x < n) (hn : n ≤ 2048) : av_inr (iN x) n = true := by
  unfold av_inr
  simp only [Bool.and_eq_true, decide_eq_true_eq]
  have e : (iN x).toInt = x := iN_toInt (by omega)
  refine ⟨fun q => ?_, ?_⟩
  · have q2 := Int32.lt_iff_toInt_lt.mp q
    rw [e] at q2
    have : (0 : Int32).toInt = 0 := rfl
    omega
  · rw [iN_clamp (by omega)]
    omega
theorem r_sald {t L : Nat} {xs : Nat → Int32} {x : Int} (d : decode M.2.1 pc = .ok (.iaload, 1)) (e : pc + 1 = pc2) (h99 : M.2.2.2.2.1 = 99) (hw : w.2.2 av_scr = .inl (t, L, .inl xs)) (h0 : 0 ≤ x) (hx : x < L) (hn : L ≤ 2048) (n : rn M pc2 ls (.int (iN (xs x.toNat).toInt) :: st) w P) : rn M pc ls (.int (iN x) :: .ref av_scr :: st) w P := by
  subst e
  rw [← iN_of] at n
  refine rn_step d rfl rfl ?_ n
  show (if M.2.2.2.2.1 = 99 then av_sald 1 pc ls (.int (iN x) :: .ref av_scr :: st) w else av_xald 0 1 pc ls (.int (iN x) :: .ref av_scr :: st) w) = _
  rw [if_pos h99]
  unfold av_sald
  dsimp only
  rw [hw]
  dsimp only
  rw [if_pos ⟨rfl, rfl, av_inr_s h0 hx hn⟩, iN_clamp (by omega)]
theorem r_new {idx ci : Nat} (d : decode M.2.1 pc = .ok (.new idx, 3)) (e : pc + 3 = pc2) (hc : av_cls M.2.2.2.2.1 idx = some ci) (hw : av_wf ls st w = true) (n : rn M pc2 ls (.ref w.1 :: st) (w.1 + 1, w.2.1 + av_N ci, av_up w.2.2 w.1 (.inr (ci, av_df ci))) P) : rn M pc ls st w P := by
  subst e
  refine rn_step d rfl rfl ?_ n
  show av_new M.2.2.2.2.1 idx 3 pc ls st w = _
  unfold av_new
  rw [hc]
  dsimp only
  rw [if_pos ⟨rfl, hw⟩]
theorem r_init {idx k a : Nat} {P2 : Option Value → av_W → Prop} (d : decode M.2.1 pc = .ok (.invokespecial idx, 3)) (e : pc + 3 = pc2) (hr : av_res M.2.2.2.2.1 idx = some (k, M2)) (hk : k = 4 ∨ k = 5) (hh : M2.2.2.2.2.2.1 < M.2.2.2.2.2.1) (hn : M2.2.2.2.2.2.2 = 0) (hs : (rest.map (fun v => v.category)).sum ≤ 8) (hl : (av_ents [.ref a]).length ≤ M2.2.2.1) (c : cl M2 [.ref a] w P2)
    (n : ∀ r w2, P2 r w2 → av_back ls rest w w2 = true ∧ rn M pc2 ls (r.toList ++ rest) w2 P) : rn M pc ls (.ref a :: rest) w P := by
  subst e
  refine rn_call (k := k) (M2 := M2) (args := [.ref a]) (rest := rest) d rfl ?_ ?_ c n
  · show av_cut M 3 idx [4, 5] false _ = _
    unfold av_cut
    rw [hr]
    dsimp only
    rw [hn]
    rw [if_pos ⟨rfl, by rcases hk with rfl | rfl <;> decide, hh, by simp, by simpa using hs⟩]
    rfl
  · refine ⟨?_, hl⟩
    rcases hk with rfl | rfl <;> rfl
def andZ (x y : Int) : Int := (iN x &&& iN y).toInt
def orZ (x y : Int) : Int := (iN x ||| iN y).toInt
def xorZ (x y : Int) : Int := (iN x ^^^ iN y).toInt
def shlZ (x y : Int) : Int := (iN x <<< (iN y &&& 31)).toInt
def shrZ (x y : Int) : Int := (iN x >>> (iN y &&& 31)).toInt
theorem r_zand {x y : Int} (d : decode M.2.1 pc = .ok (.iand, 1)) (e : pc + 1 = pc2) (n : rn M pc2 ls (.int (iN (andZ x y)) :: st) w P) : rn M pc ls (.int (iN y) :: .int (iN x) :: st) w P := r_iand d e (iN_of _) n
theorem r_zor {x y : Int} (d : decode M.2.1 pc = .ok (.ior, 1)) (e : pc + 1 = pc2) (n : rn M pc2 ls (.int (iN (orZ x y)) :: st) w P) : rn M pc ls (.int (iN y) :: .int (iN x) :: st) w P := r_ior d e (iN_of _) n
theorem r_zxor {x y : Int} (d : decode M.2.1 pc = .ok (.ixor, 1)) (e : pc + 1 = pc2) (n : rn M pc2 ls (.int (iN (xorZ x y)) :: st) w P) : rn M pc ls (.int (iN y) :: .int (iN x) :: st) w P := r_ixor d e (iN_of _) n
theorem r_zshl {x y : Int} (d : decode M.2.1 pc = .ok (.ishl, 1)) (e : pc + 1 = pc2) (n : rn M pc2 ls (.int (iN (shlZ x y)) :: st) w P) : rn M pc ls (.int (iN y) :: .int (iN x) :: st) w P := r_ishl d e (iN_of _) n
theorem r_zshr {x y : Int} (d : decode M.2.1 pc = .ok (.ishr, 1)) (e : pc + 1 = pc2) (n : rn M pc2 ls (.int (iN (shrZ x y)) :: st) w P) : rn M pc ls (.int (iN y) :: .int (iN x) :: st) w P := r_ishr d e (iN_of _) n
theorem and_rg {x m : Int} (hm : 0 ≤ m ∧ m < 2147483648) : 0 ≤ andZ x m ∧ andZ x m ≤ m := by
  have h : ((iN x &&& iN m).toBitVec).toNat ≤ m.toNat := by
    show ((iN x).toBitVec &&& (BitVec.ofInt 32 m)).toNat ≤ _
    rw [BitVec.toNat_and]
    refine Nat.le_trans Nat.and_le_right ?_
    rw [BitVec.toNat_ofInt]
    omega
  have e : (iN x &&& iN m).toInt = (((iN x &&& iN m).toBitVec).toNat : Int) := by
    show (iN x &&& iN m).toBitVec.toInt = _
    exact BitVec.toInt_eq_toNat_of_lt (by omega)
  unfold andZ
  rw [e]
  omega
theorem i2c_id {y : Int} (h : 0 ≤ y ∧ y ≤ 65535) : ((iN y).toUInt32 % 65536).toInt32 = iN y := by
  have h2 : ((iN y).toUInt32 % 65536).toNat = y.toNat := by
    rw [UInt32.toNat_mod]
    show (BitVec.ofInt 32 y).toNat % 65536 = _
    rw [BitVec.toNat_ofInt]
    omega
  have e : (((iN y).toUInt32 % 65536).toInt32).toInt = (((iN y).toUInt32 % 65536).toNat : Int) := by
    show ((iN y).toUInt32 % 65536).toBitVec.toInt = _
    exact BitVec.toInt_eq_toNat_of_lt (by show 2 * ((iN y).toUInt32 % 65536).toNat < 2 ^ 32; omega)
  have e2 := iN_of ((iN y).toUInt32 % 65536).toInt32
  rw [e, h2, tn h.1] at e2
  exact e2
theorem r_zi2c {x : Int} (d : decode M.2.1 pc = .ok (.i2c, 1)) (e : pc + 1 = pc2) (hx : 0 ≤ x ∧ x ≤ 65535) (n : rn M pc2 ls (.int (iN x) :: st) w P) : rn M pc ls (.int (iN x) :: st) w P := r_i2c d e (i2c_id hx) n
theorem r_dia_if_icmp_ne {x y off off2 : Int} {A B : Nat} (d0 : decode M.2.1 pc = .ok (.if_icmp .ne off, 3)) (eA : (pc : Int) + off = (A : Int)) (d1 : decode M.2.1 (pc + 3) = .ok (.iconst 1, 1)) (d2 : decode M.2.1 (pc + 4) = .ok (.goto off2, 3)) (eB : ((pc + 4 : Nat) : Int) + off2 = (B : Int)) (d3 : decode M.2.1 A = .ok (.iconst 0, 1)) (e3 : A + 1 = B) (hx : -2147483648 ≤ x ∧ x < 2147483648) (hy : -2147483648 ≤ y ∧ y < 2147483648) (n : rn M B ls (.int (iN (bz (x = y))) :: st) w P) : rn M pc ls (.int (iN y) :: .int (iN x) :: st) w P := by
  refine r_icmp_ne (pc2 := pc + 3) (tgt := A) d0 rfl eA hx hy (fun h => ?_) (fun h => ?_)
  · rw [bz_f h] at n
    exact r_iconst d3 e3 n
  · rw [bz_t h] at n
    exact r_iconst (pc2 := pc + 4) d1 rfl (r_goto (tgt := B) d2 eB n)
theorem r_dian_if_icmp_ne {x y off off2 : Int} {A B : Nat} (d0 : decode M.2.1 pc = .ok (.if_icmp .ne off, 3)) (eA : (pc : Int) + off = (A : Int)) (d1 : decode M.2.1 (pc + 3) = .ok (.iconst 0, 1)) (d2 : decode M.2.1 (pc + 4) = .ok (.goto off2, 3)) (eB : ((pc + 4 : Nat) : Int) + off2 = (B : Int)) (d3 : decode M.2.1 A = .ok (.iconst 1, 1)) (e3 : A + 1 = B) (hx : -2147483648 ≤ x ∧ x < 2147483648) (hy : -2147483648 ≤ y ∧ y < 2147483648) (n : rn M B ls (.int (iN (bz (¬ x = y))) :: st) w P) : rn M pc ls (.int (iN y) :: .int (iN x) :: st) w P := by
  refine r_icmp_ne (pc2 := pc + 3) (tgt := A) d0 rfl eA hx hy (fun h => ?_) (fun h => ?_)
  · rw [bz_t h] at n
    exact r_iconst d3 e3 n
  · rw [bz_f (fun q => q h)] at n
    exact r_iconst (pc2 := pc + 4) d1 rfl (r_goto (tgt := B) d2 eB n)
theorem r_dia_if_icmp_eq {x y off off2 : Int} {A B : Nat} (d0 : decode M.2.1 pc = .ok (.if_icmp .eq off, 3)) (eA : (pc : Int) + off = (A : Int)) (d1 : decode M.2.1 (pc + 3) = .ok (.iconst 1, 1)) (d2 : decode M.2.1 (pc + 4) = .ok (.goto off2, 3)) (eB : ((pc + 4 : Nat) : Int) + off2 = (B : Int)) (d3 : decode M.2.1 A = .ok (.iconst 0, 1)) (e3 : A + 1 = B) (hx : -2147483648 ≤ x ∧ x < 2147483648) (hy : -2147483648 ≤ y ∧ y < 2147483648) (n : rn M B ls (.int (iN (bz (¬ x = y))) :: st) w P) : rn M pc ls (.int (iN y) :: .int (iN x) :: st) w P := by
  refine r_icmp_eq (pc2 := pc + 3) (tgt := A) d0 rfl eA hx hy (fun h => ?_) (fun h => ?_)
  · rw [bz_f (fun q => q h)] at n
    exact r_iconst d3 e3 n
  · rw [bz_t h] at n
    exact r_iconst (pc2 := pc + 4) d1 rfl (r_goto (tgt := B) d2 eB n)
theorem r_dia_ifCond_ne {x off off2 : Int} {A B : Nat} (d0 : decode M.2.1 pc = .ok (.ifCond .ne off, 3)) (eA : (pc : Int) + off = (A : Int)) (d1 : decode M.2.1 (pc + 3) = .ok (.iconst 1, 1)) (d2 : decode M.2.1 (pc + 4) = .ok (.goto off2, 3)) (eB : ((pc + 4 : Nat) : Int) + off2 = (B : Int)) (d3 : decode M.2.1 A = .ok (.iconst 0, 1)) (e3 : A + 1 = B) (hx : -2147483648 ≤ x ∧ x < 2147483648) (n : rn M B ls (.int (iN (bz (x = 0))) :: st) w P) : rn M pc ls (.int (iN x) :: st) w P := by
  refine r_if_ne (pc2 := pc + 3) (tgt := A) d0 rfl eA hx (fun h => ?_) (fun h => ?_)
  · rw [bz_f h] at n
    exact r_iconst d3 e3 n
  · rw [bz_t h] at n
    exact r_iconst (pc2 := pc + 4) d1 rfl (r_goto (tgt := B) d2 eB n)
end LAW1
def upZ (x n : Int) : Int := andZ x 2147483647 % n
theorem up_rg {x n : Int} (hn : 1 ≤ n) : 0 ≤ upZ x n ∧ upZ x n < n := by
  unfold upZ
  exact ⟨Int.emod_nonneg _ (by omega), Int.emod_lt_of_pos _ (by omega)⟩

set_option maxHeartbeats 4000000 in
theorem l_up (w : av_W) (x n : Int) (hn : 1 ≤ n ∧ n ≤ 2000) : fn ML_up [.int (iN x), .int (iN n)] w (some (.int (iN (upZ x n)))) w := by
  have ha := and_rg (x := x) (m := 2147483647) (by omega)
  show rn ML_up 0 [some (.int (iN x)), some (.int (iN n))] [] w _
  refine r_iload_n (pc2 := 1) dL_up_0 rfl rfl ?_
  refine r_ldc (pc2 := 3) dL_up_1 rfl ki_99_8 ?_
  refine r_zand (pc2 := 4) dL_up_3 rfl ?_
  refine r_iload_n (pc2 := 5) dL_up_4 rfl rfl ?_
  refine r_irem (pc2 := 6) dL_up_5 rfl (by omega) (by omega) (by omega) (by omega) ?_
  refine r_ret dL_up_6 rfl ?_
  exact ⟨by unfold upZ; rw [Int.tmod_eq_emod_of_nonneg ha.1], rfl⟩

set_option maxHeartbeats 4000000 in
theorem l_colour (w : av_W) (x : Int) (hx : RG x) : fn ML_colour [.int (iN x)] w (some (.int (iN (coZ x)))) w := by
  unfold RG at *
  show rn ML_colour 0 [some (.int (iN x))] [] w _
  refine r_iload_n (pc2 := 1) dL_colour_0 rfl rfl ?_
  refine r_if_lt (pc2 := 4) (tgt := 10) dL_colour_1 rfl (by decide) (by omega) (fun h1 => ?_) (fun h1 => ?_)
  · refine r_iload_n (pc2 := 11) dL_colour_10 rfl rfl ?_
    refine r_goto (tgt := 18) dL_colour_11 (by decide) ?_
    refine r_ret dL_colour_18 rfl ?_
    exact ⟨by unfold coZ; first | rw [if_pos (by omega)] | rw [if_neg (by omega)], rfl⟩
  · refine r_iload_n (pc2 := 5) dL_colour_4 rfl rfl ?_
    refine r_bipush (pc2 := 7) dL_colour_5 rfl (by decide) ?_
    refine r_icmp_le (pc2 := 10) (tgt := 14) dL_colour_7 rfl (by decide) (by omega) (by omega) (fun h7 => ?_) (fun h7 => ?_)
    · refine r_bipush (pc2 := 16) dL_colour_14 rfl (by decide) ?_
      refine r_iload_n (pc2 := 17) dL_colour_16 rfl rfl ?_
      refine r_isub (pc2 := 18) dL_colour_17 rfl ?_
      refine r_ret dL_colour_18 rfl ?_
      exact ⟨by unfold coZ; first | rw [if_pos (by omega)] | rw [if_neg (by omega)], rfl⟩
    · refine r_iload_n (pc2 := 11) dL_colour_10 rfl rfl ?_
      refine r_goto (tgt := 18) dL_colour_11 (by decide) ?_
      refine r_ret dL_colour_18 rfl ?_
      exact ⟨by unfold coZ; first | rw [if_pos (by omega)] | rw [if_neg (by omega)], rfl⟩

set_option maxHeartbeats 4000000 in
theorem l_cell (w : av_W) (L : Nat) (xs : Nat → Int32) (hw : w.2.2 av_scr = .inl (3, L, .inl xs)) (hL : L ≤ 2000) (k : Int) (hk : 0 ≤ k ∧ k ≤ 100) : cl ML_cell [.ref av_scr, .int (iN k)] w (fun r' w' => (∃ z : Int, r' = some (.int (iN z)) ∧ (-2147483648 ≤ z ∧ z < 2147483648)) ∧ w' = w) := by
  show rn ML_cell 0 [some (.ref av_scr), some (.int (iN k))] [] w _
  refine r_iload_n (pc2 := 1) dL_cell_0 rfl rfl ?_
  refine r_aload_n (pc2 := 2) dL_cell_1 rfl rfl ?_
  refine r_slen (pc2 := 3) dL_cell_2 rfl rfl hw ?_
  refine r_icmp_ge (pc2 := 6) (tgt := 12) dL_cell_3 rfl (by decide) (by omega) (by omega) (fun h3 => ?_) (fun h3 => ?_)
  · refine r_ldc (pc2 := 14) dL_cell_12 rfl ki_99_7 ?_
    refine r_iload_n (pc2 := 15) dL_cell_14 rfl rfl ?_
    refine r_sipush (pc2 := 18) dL_cell_15 rfl (by decide) ?_
    refine r_iadd (pc2 := 19) dL_cell_18 rfl ?_
    refine r_imul (pc2 := 20) dL_cell_19 rfl ?_
    refine r_ret dL_cell_20 rfl ?_
    first
      | exact ⟨⟨_, rfl, iN_rg _⟩, rfl⟩
      | exact ⟨⟨_, congrArg (fun z => some (Value.int z)) (iN_of _), iN_rg _⟩, rfl⟩
  · refine r_aload_n (pc2 := 7) dL_cell_6 rfl rfl ?_
    refine r_iload_n (pc2 := 8) dL_cell_7 rfl rfl ?_
    refine r_sald (pc2 := 9) dL_cell_8 rfl rfl hw (by omega) (by omega) (by omega) ?_
    refine r_goto (tgt := 20) dL_cell_9 (by decide) ?_
    refine r_ret dL_cell_20 rfl ?_
    first
      | exact ⟨⟨_, rfl, iN_rg _⟩, rfl⟩
      | exact ⟨⟨_, congrArg (fun z => some (Value.int z)) (iN_of _), iN_rg _⟩, rfl⟩

theorem ct0 {V : CV} : o_count V 0 0 0 = V.1 := by
  obtain ⟨v, p, sh, ln, pr, gd, co, c, s⟩ := V
  rfl
theorem ct1 {V : CV} : o_count V 0 0 1 = V.2.1 := by
  obtain ⟨v, p, sh, ln, pr, gd, co, c, s⟩ := V
  rfl
theorem ct2 {V : CV} : o_count V 0 0 2 = V.2.2.1 := by
  obtain ⟨v, p, sh, ln, pr, gd, co, c, s⟩ := V
  rfl
theorem ct3 {V : CV} : o_count V 0 0 3 = V.2.2.2.1 := by
  obtain ⟨v, p, sh, ln, pr, gd, co, c, s⟩ := V
  rfl
theorem ct4 {V : CV} : o_count V 0 0 4 = GA V.2.1 V.2.2.1 V.2.2.2.1 V.2.2.2.2.2.2.2.2 := by
  obtain ⟨v, p, sh, ln, pr, gd, co, c, s⟩ := V
  rfl

set_option maxHeartbeats 4000000 in
theorem l_there {sc : av_E} {w : av_W} {V U : CV} {len len2 : Int} {t t2 : Nat → Int} (J : JJ sc w V U len len2 t t2) (x : Int) (hx : RG x) : cl ML_there [.ref 0, .int (iN x)] w (fun r' w' => r' = some (.int (iN (thZ V.1 x))) ∧ JJ sc w' V U len len2 t t2) := by
  unfold RG at *
  have n_ := J.1
  have hv : 2 ≤ V.1 ∧ V.1 ≤ 4 := J.kv.1.1.1.1
  obtain ⟨⟨z0, f0, z0w⟩, z33, f33, z33w⟩ := J.cells
  show rn ML_there 0 [some (.ref 0), some (.int (iN x))] [] w _
  refine r_iload_n (pc2 := 1) dL_there_0 rfl rfl ?_
  refine r_if_lt (pc2 := 4) (tgt := 13) dL_there_1 rfl (by decide) (by omega) (fun h1 => ?_) (fun h1 => ?_)
  · refine r_iload_n (pc2 := 14) dL_there_13 rfl rfl ?_
    refine r_goto (tgt := 26) dL_there_14 (by decide) ?_
    refine r_ret dL_there_26 rfl ?_
    exact ⟨by unfold thZ; first | rw [if_pos (by omega)] | rw [if_neg (by omega)], J⟩
  · refine r_iload_n (pc2 := 5) dL_there_4 rfl rfl ?_
    refine r_aload_n (pc2 := 6) dL_there_5 rfl rfl ?_
    refine r_iconst (pc2 := 7) dL_there_6 rfl ?_
    refine r_callv_1 (pc2 := 10) dL_there_7 rfl rs_99_9 rfl (by decide) rfl (Nat.le_of_ble_eq_true rfl) (Nat.le_of_ble_eq_true rfl) (by assumption) (by assumption) (ot_count J 0 (by omega)) (fun r_ w_ h_ => ?_)
    obtain ⟨e_, J⟩ := h_
    rw [e_, ct0]
    clear e_ r_
    have n_ := J.1
    obtain ⟨⟨z0, f0, z0w⟩, z33, f33, z33w⟩ := J.cells
    refine ⟨by omega, ?_⟩
    refine r_icmp_lt (pc2 := 13) (tgt := 17) dL_there_10 rfl (by decide) (by omega) (by omega) (fun h10 => ?_) (fun h10 => ?_)
    · refine r_aload_n (pc2 := 18) dL_there_17 rfl rfl ?_
      refine r_iconst (pc2 := 19) dL_there_18 rfl ?_
      refine r_callv_1 (pc2 := 22) dL_there_19 rfl rs_99_9 rfl (by decide) rfl (Nat.le_of_ble_eq_true rfl) (Nat.le_of_ble_eq_true rfl) (by assumption) (by assumption) (ot_count J 0 (by omega)) (fun r_ w_ h_ => ?_)
      obtain ⟨e_, J⟩ := h_
      rw [e_, ct0]
      clear e_ r_
      have n_ := J.1
      obtain ⟨⟨z0, f0, z0w⟩, z33, f33, z33w⟩ := J.cells
      refine ⟨by omega, ?_⟩
      refine r_iconst (pc2 := 23) dL_there_22 rfl ?_
      refine r_isub (pc2 := 24) dL_there_23 rfl ?_
      refine r_iload_n (pc2 := 25) dL_there_24 rfl rfl ?_
      refine r_isub (pc2 := 26) dL_there_25 rfl ?_
      refine r_ret dL_there_26 rfl ?_
      exact ⟨by unfold thZ; first | rw [if_pos (by omega)] | rw [if_neg (by omega)], J⟩
    · refine r_iload_n (pc2 := 14) dL_there_13 rfl rfl ?_
      refine r_goto (tgt := 26) dL_there_14 (by decide) ?_
      refine r_ret dL_there_26 rfl ?_
      exact ⟨by unfold thZ; first | rw [if_pos (by omega)] | rw [if_neg (by omega)], J⟩

