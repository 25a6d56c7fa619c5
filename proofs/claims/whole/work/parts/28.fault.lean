/-! the fault of a text, by the reference, in the class's words -/
theorem chZ_t {t : Nat → Int} {i : Int} (h : 0 ≤ i ∧ i < 80) : chZ (cOf t) i = if t i.toNat ≤ 255 then t i.toNat else 0 := if_pos h
theorem ch_47 {t : Nat → Int} {i : Int} (h : 0 ≤ i ∧ i < 80) : chZ (cOf t) i = 47 ↔ t i.toNat = 47 := by
  rw [chZ_t h]
  split <;> omega
theorem ch_58 {t : Nat → Int} {i : Int} (h : 0 ≤ i ∧ i < 80) : chZ (cOf t) i = 58 ↔ t i.toNat = 58 := by
  rw [chZ_t h]
  split <;> omega
theorem dg_t {t : Nat → Int} {i : Int} (h : 0 ≤ i ∧ i < 80) : dgZ (cOf t) i = if 48 ≤ t i.toNat ∧ t i.toNat ≤ 57 then t i.toNat - 48 else -1 := by
  unfold dgZ
  rw [chZ_t h]
  by_cases h1 : t i.toNat ≤ 255
  · rw [if_pos h1]
  · rw [if_neg h1, if_neg (by omega), if_neg (by omega)]
theorem coF_none {c : Nat → Int} {n : Nat} (h : ∀ j : Nat, j < n → chZ c j ≠ 58) : coF c n = -1 := by
  induction n with
  | zero => rfl
  | succ n ih =>
    show (if chZ c n = 58 then (n : Int) else coF c n) = -1
    rw [if_neg (h n (by omega))]
    exact ih (fun j hj => h j (by omega))
theorem coF_one {c : Nat → Int} {k n : Nat} (hk : chZ c k = 58) (hkn : k < n) (h : ∀ j : Nat, k < j → j < n → chZ c j ≠ 58) : coF c n = k := by
  induction n with
  | zero => omega
  | succ n ih =>
    show (if chZ c n = 58 then (n : Int) else coF c n) = k
    by_cases hn : n = k
    · rw [hn, if_pos hk]
    · rw [if_neg (h n (by omega) (by omega))]
      exact ih (by omega) (fun j h1 h2 => h j h1 (by omega))
/-- views so far: digits, and a stroke behind each view -/
def pat (t : Nat → Int) (n : Int) : Prop := ∀ j : Nat, (j : Int) < n → (((j : Int) + 1) % 13 = 0 → t j = 47) ∧ (((j : Int) + 1) % 13 ≠ 0 → 48 ≤ t j ∧ t j ≤ 57)
def alA (t : Nat → Int) (q : Int) : Prop := ∀ j : Nat, (j : Int) < q → alC (cOf t) (coF (cOf t) j) j
theorem pat_co {t : Nat → Int} {n : Int} (h : pat t n) (hn : n ≤ 80) {m : Nat} (hm : (m : Int) ≤ n) : coF (cOf t) m = -1 := by
  apply coF_none
  intro j hj q
  have h1 := (ch_58 (t := t) (i := j) (by omega)).mp q
  rw [Int.toNat_natCast] at h1
  have h2 := h j (by omega)
  by_cases h3 : ((j : Int) + 1) % 13 = 0
  · have := h2.1 h3
    omega
  · have := h2.2 h3
    omega
theorem al_d {t : Nat → Int} {i : Int} (h : 0 ≤ i ∧ i < 80) (h1 : (i + 1) % 13 ≠ 0) : alC (cOf t) (-1) i ↔ 48 ≤ t i.toNat ∧ t i.toNat ≤ 57 := by
  unfold alC
  rw [if_pos rfl, if_neg h1, dg_t h]
  split <;> omega
theorem al_s {t : Nat → Int} {i : Int} (h : 0 ≤ i ∧ i < 80) (h1 : (i + 1) % 13 = 0) : alC (cOf t) (-1) i ↔ (t i.toNat = 47 ∧ (i + 1) / 13 < 4) ∨ (t i.toNat = 58 ∧ 2 ≤ (i + 1) / 13) := by
  unfold alC
  rw [if_pos rfl, if_pos h1, ch_47 h, ch_58 h]
theorem al_c {t : Nat → Int} {k i : Int} (h : 0 ≤ i ∧ i < 80) (hk : k ≠ -1) : alC (cOf t) k i ↔ i - k ≤ 6 ∧ 48 ≤ t i.toNat ∧ t i.toNat ≤ 57 ∧ t i.toNat - 48 ≤ (k + 1) / 13 - 1 := by
  unfold alC
  rw [if_neg hk, dg_t h]
  split <;> omega
theorem pat_al {t : Nat → Int} {n : Int} (h : pat t n) (hn : n ≤ 51) : alA t n := by
  intro j hj
  rw [pat_co h (by omega) (m := j) (by omega)]
  have h2 := h j hj
  by_cases h3 : ((j : Int) + 1) % 13 = 0
  · rw [al_s (by omega) h3, Int.toNat_natCast]
    exact Or.inl ⟨h2.1 h3, by omega⟩
  · rw [al_d (by omega) h3, Int.toNat_natCast]
    exact h2.2 h3
/-- the fault, or what has been read -/
def badF (t : Nat → Int) (tl q : Int) : Prop := (0 ≤ q ∧ q ≤ tl) ∧ alA t q ∧ ((q < tl ∧ ¬ alC (cOf t) (coF (cOf t) q.toNat) q) ∨ (q = tl ∧ ¬ enC tl (coF (cOf t) tl.toNat)))
def goodF (t : Nat → Int) (tl rv rs oa : Int) : Prop := alA t tl ∧ enC tl (coF (cOf t) tl.toNat) ∧ (2 ≤ rv ∧ rv ≤ 4) ∧ pat t (13 * rv - 1) ∧ 13 * rv - 1 ≤ tl ∧ ((coF (cOf t) tl.toNat = -1 ∧ rs = -105 ∧ tl = 13 * rv - 1) ∨ (coF (cOf t) tl.toNat = 13 * rv - 1 ∧ rs = tl - 13 * rv ∧ (2 ≤ rs ∧ rs ≤ 6) ∧ oa = 13 * rv ∧ ∀ i : Int, 0 ≤ i → i < rs → 48 ≤ t (13 * rv + i).toNat ∧ t (13 * rv + i).toNat ≤ 47 + rv))
theorem pat_more {t : Nat → Int} {V n tl b : Int} (hb : b ≤ 57) (h : pat t (13 * V)) (hV : 0 ≤ V) (hn : 0 ≤ n ∧ n ≤ 12) (hd : ∀ i : Int, 0 ≤ i → i < n → inO t tl 48 b (13 * V + i)) : pat t (13 * V + n) := by
  intro j hj
  by_cases h1 : (j : Int) < 13 * V
  · exact h j h1
  · have h2 := hd (j - 13 * V) (by omega) (by omega)
    rw [show 13 * V + ((j : Int) - 13 * V) = j by omega] at h2
    simp only [inO, Int.toNat_natCast] at h2
    exact ⟨fun q => by omega, fun _ => ⟨h2.2.1, by have := h2.2.2; omega⟩⟩
theorem pat_next {t : Nat → Int} {V tl : Int} (h : pat t (13 * V + 12)) (hV : 0 ≤ V) (h47 : inO t tl 47 47 (13 * V + 12)) : pat t (13 * (V + 1)) := by
  intro j hj
  by_cases h1 : (j : Int) < 13 * V + 12
  · exact h j h1
  · have h2 : (j : Int) = 13 * V + 12 := by omega
    have h3 := h47.2
    rw [← h2, Int.toNat_natCast] at h3
    exact ⟨fun _ => by omega, fun q => by omega⟩
theorem fault_1 {t : Nat → Int} {V n tl : Int} (h : pat t (13 * V)) (hV : 0 ≤ V ∧ V ≤ 3) (htl : tl ≤ 80) (hn : 0 ≤ n ∧ n < 12) (hs : 13 * V + n ≤ tl) (hd : ∀ i : Int, 0 ≤ i → i < n → inO t tl 48 57 (13 * V + i)) (hx : ¬ inO t tl 48 57 (13 * V + n)) : badF t tl (13 * V + n) := by
  have hp := pat_more (by omega) h hV.1 (by omega) hd
  have hc := pat_co hp (by omega) (m := (13 * V + n).toNat) (by omega)
  refine ⟨by omega, pat_al hp (by omega), ?_⟩
  by_cases he : 13 * V + n = tl
  · refine Or.inr ⟨he, ?_⟩
    rw [← he, hc]
    unfold enC
    rw [if_pos rfl]
    omega
  · refine Or.inl ⟨by omega, ?_⟩
    rw [hc, al_d (by omega) (by omega)]
    intro q
    exact hx ⟨by omega, q.1, q.2⟩
theorem fault_2 {t : Nat → Int} {tl : Int} (h : pat t 12) (htl : 12 ≤ tl ∧ tl ≤ 80) (hx : ¬ inO t tl 47 47 12) : badF t tl 12 := by
  have hc := pat_co h (by omega) (m := 12) (by omega)
  refine ⟨by omega, pat_al h (by omega), ?_⟩
  by_cases he : 12 = tl
  · refine Or.inr ⟨he, ?_⟩
    rw [← he, show (12 : Int).toNat = 12 from rfl, hc]
    unfold enC
    rw [if_pos rfl]
    omega
  · refine Or.inl ⟨by omega, ?_⟩
    rw [show (12 : Int).toNat = 12 from rfl, hc, al_s (by omega) (by omega)]
    intro q
    rcases q with q | q
    · exact hx ⟨by omega, by omega, by omega⟩
    · omega
theorem end_1 {t : Nat → Int} {V tl oa : Int} (h : pat t (13 * V - 1)) (hV : 2 ≤ V ∧ V ≤ 4) (he : tl = 13 * V - 1) : goodF t tl V (-105) oa := by
  have hc := pat_co h (by omega) (m := tl.toNat) (by omega)
  refine ⟨by rw [he]; exact pat_al h (by omega), ?_, hV, h, by omega, Or.inl ⟨hc, rfl, he⟩⟩
  rw [hc]
  unfold enC
  rw [if_pos rfl]
  omega
theorem fault_3 {t : Nat → Int} {V tl : Int} (h : pat t (13 * V - 1)) (hV : 2 ≤ V ∧ V ≤ 4) (htl : 13 * V - 1 < tl ∧ tl ≤ 80) (h58 : ¬ inO t tl 58 58 (13 * V - 1)) (h47 : V = 4 ∨ ¬ inO t tl 47 47 (13 * V - 1)) : badF t tl (13 * V - 1) := by
  have hc := pat_co h (by omega) (m := (13 * V - 1).toNat) (by omega)
  refine ⟨by omega, pat_al h (by omega), Or.inl ⟨htl.1, ?_⟩⟩
  rw [hc, al_s (by omega) (by omega)]
  intro q
  rcases q with q | q
  · rcases h47 with h47 | h47
    · omega
    · exact h47 ⟨htl.1, by omega, by omega⟩
  · exact h58 ⟨htl.1, by omega, by omega⟩
theorem col_co {t : Nat → Int} {V n tl : Int} (hV : 2 ≤ V ∧ V ≤ 4) (h58 : inO t tl 58 58 (13 * V - 1)) (hn : 0 ≤ n ∧ n ≤ 12) (hd : ∀ i : Int, 0 ≤ i → i < n → inO t tl 48 (48 + V - 1) (13 * V + i)) {m : Nat} (hm : 13 * V ≤ (m : Int) ∧ (m : Int) ≤ 13 * V + n) : coF (cOf t) m = 13 * V - 1 := by
  have h1 : coF (cOf t) m = ((13 * V - 1).toNat : Nat) := by
    apply coF_one
    · rw [tn (by omega), ch_58 (by omega)]
      have := h58.2
      omega
    · omega
    · intro j h2 h3 q
      have h4 := (ch_58 (t := t) (i := j) (by omega)).mp q
      rw [Int.toNat_natCast] at h4
      have h5 := hd (j - 13 * V) (by omega) (by omega)
      rw [show 13 * V + ((j : Int) - 13 * V) = j by omega] at h5
      simp only [inO, Int.toNat_natCast] at h5
      have := h5.2.2
      omega
  rw [h1, tn (by omega)]
theorem col_al {t : Nat → Int} {V n tl : Int} (h : pat t (13 * V - 1)) (hV : 2 ≤ V ∧ V ≤ 4) (h58 : inO t tl 58 58 (13 * V - 1)) (hn : 0 ≤ n ∧ n ≤ 6) (hd : ∀ i : Int, 0 ≤ i → i < n → inO t tl 48 (48 + V - 1) (13 * V + i)) : alA t (13 * V + n) := by
  intro j hj
  by_cases h1 : (j : Int) < 13 * V - 1
  · exact pat_al h (by omega) j h1
  · by_cases h2 : (j : Int) = 13 * V - 1
    · rw [pat_co h (by omega) (m := j) (by omega), al_s (by omega) (by omega), Int.toNat_natCast]
      have h3 := h58.2
      rw [← h2, Int.toNat_natCast] at h3
      exact Or.inr ⟨by omega, by omega⟩
    · rw [col_co hV h58 (by omega) hd (m := j) (by omega), al_c (by omega) (by omega), Int.toNat_natCast]
      have h5 := hd (j - 13 * V) (by omega) (by omega)
      rw [show 13 * V + ((j : Int) - 13 * V) = j by omega] at h5
      simp only [inO, Int.toNat_natCast] at h5
      have := h5.2
      omega
theorem fault_4 {t : Nat → Int} {V n tl : Int} (h : pat t (13 * V - 1)) (hV : 2 ≤ V ∧ V ≤ 4) (htl : 13 * V + n ≤ tl ∧ tl ≤ 80) (h58 : inO t tl 58 58 (13 * V - 1)) (hn : 0 ≤ n ∧ n ≤ 6) (hd : ∀ i : Int, 0 ≤ i → i < n → inO t tl 48 (48 + V - 1) (13 * V + i)) (hx : n = 6 ∨ ¬ inO t tl 48 (48 + V - 1) (13 * V + n)) (hs : n < 2 ∨ 13 * V + n ≠ tl) : badF t tl (13 * V + n) := by
  have hc := col_co hV h58 (by omega) hd (m := (13 * V + n).toNat) (by omega)
  refine ⟨by omega, col_al h hV h58 hn hd, ?_⟩
  by_cases he : 13 * V + n = tl
  · refine Or.inr ⟨he, ?_⟩
    rw [← he, hc]
    unfold enC
    rw [if_neg (by omega)]
    omega
  · refine Or.inl ⟨by omega, ?_⟩
    rw [hc, al_c (by omega) (by omega)]
    intro q
    rcases hx with hx | hx
    · omega
    · exact hx ⟨by omega, by omega, by omega⟩
theorem end_2 {t : Nat → Int} {V n tl : Int} (h : pat t (13 * V - 1)) (hV : 2 ≤ V ∧ V ≤ 4) (h58 : inO t tl 58 58 (13 * V - 1)) (hn : 2 ≤ n ∧ n ≤ 6) (hd : ∀ i : Int, 0 ≤ i → i < n → inO t tl 48 (48 + V - 1) (13 * V + i)) (he : 13 * V + n = tl) : goodF t tl V n (13 * V) := by
  have hc := col_co hV h58 (by omega) hd (m := tl.toNat) (by omega)
  refine ⟨by rw [← he]; exact col_al h hV h58 (by omega) hd, ?_, hV, h, by omega, Or.inr ⟨hc, by omega, hn, rfl, fun i h0 h1 => ?_⟩⟩
  · rw [hc]
    unfold enC
    rw [if_neg (by omega)]
    omega
  · have := hd i h0 h1
    have := this.2
    omega

set_option maxHeartbeats 4000000 in
theorem m_fault (w : av_W) (h42 : 42 ≤ w.1) (hl tk tl sp rv rs oa : Int) (hO : w.2.2 33 = mdO hl tk tl sp rv rs oa) (t : Nat → Int) (hT : w.2.2 41 = arO 80 t) (hR : TR t) (htl : 0 ≤ tl ∧ tl ≤ 80) : cl MX5_fault [.ref 33] w (fun r' w' => (∃ q : Int, badF t tl q ∧ r' = some (.int (iN q)) ∧ ∃ sp2 rv2 rs2 oa2 : Int, w' = (wst w 33 (mdO hl tk tl sp2 rv2 rs2 oa2))) ∨ (r' = some (.int (iN (-105))) ∧ ∃ sp2 rv2 rs2 oa2 : Int, goodF t tl rv2 rs2 oa2 ∧ w' = (wst w 33 (mdO hl tk tl sp2 rv2 rs2 oa2)))) := by
  have k33 : 33 < w.1 := by omega
  have k41 : 41 < w.1 := by omega
  show rn MX5_fault 0 [some (.ref 33), none] [] w (fun r' w' => (∃ q : Int, badF t tl q ∧ r' = some (.int (iN q)) ∧ ∃ sp2 rv2 rs2 oa2 : Int, w' = (wst w 33 (mdO hl tk tl sp2 rv2 rs2 oa2))) ∨ (r' = some (.int (iN (-105))) ∧ ∃ sp2 rv2 rs2 oa2 : Int, goodF t tl rv2 rs2 oa2 ∧ w' = (wst w 33 (mdO hl tk tl sp2 rv2 rs2 oa2))))
  have tail : ∀ (V : Int), (1 ≤ V ∧ V ≤ 4) → pat t (13 * V - 1) → 13 * V - 1 ≤ tl → (V = 4 ∨ ¬ inO t tl 47 47 (13 * V - 1)) → rn MX5_fault 76 [some (.ref 33), some (.int (iN 0))] [] (wst w 33 (mdO hl tk tl (13 * V - 1) V (-105) oa)) (fun r' w' => (∃ q : Int, badF t tl q ∧ r' = some (.int (iN q)) ∧ ∃ sp2 rv2 rs2 oa2 : Int, w' = (wst w 33 (mdO hl tk tl sp2 rv2 rs2 oa2))) ∨ (r' = some (.int (iN (-105))) ∧ ∃ sp2 rv2 rs2 oa2 : Int, goodF t tl rv2 rs2 oa2 ∧ w' = (wst w 33 (mdO hl tk tl sp2 rv2 rs2 oa2)))) := by
    intro V hV hp hs h47
    have q42 : 42 ≤ (wst w 33 (mdO hl tk tl (13 * V - 1) V (-105) oa)).1 := h42
    have q33 : 33 < (wst w 33 (mdO hl tk tl (13 * V - 1) V (-105) oa)).1 := k33
    have qO : (wst w 33 (mdO hl tk tl (13 * V - 1) V (-105) oa)).2.2 33 = mdO hl tk tl (13 * V - 1) V (-105) oa := wst_self
    have qT : (wst w 33 (mdO hl tk tl (13 * V - 1) V (-105) oa)).2.2 41 = arO 80 t := by rw [wst_ne (by decide)]; exact hT
    refine r_aload_n (pc2 := 77) dX5_fault_76 rfl rfl ?_
    refine r_getf (pc2 := 80) dX5_fault_77 rfl fl_5_140 (by assumption) (by assumption) (by rfl) ?_
    refine r_iconst (pc2 := 81) dX5_fault_80 rfl ?_
    refine r_icmp_ge (pc2 := 84) (tgt := 89) dX5_fault_81 rfl (by decide) (by omega) (by omega) (fun h81 => ?_) (fun h81 => ?_)
    · refine r_aload_n (pc2 := 90) dX5_fault_89 rfl rfl ?_
      refine r_bipush (pc2 := 92) dX5_fault_90 rfl (by decide) ?_
      refine r_callv_1 (pc2 := 95) dX5_fault_92 rfl rs_5_149 rfl (by decide) rfl (Nat.le_of_ble_eq_true rfl) (Nat.le_of_ble_eq_true rfl) (by assumption) (by assumption) (m_takes _ q42 hl tk tl (13 * V - 1) V (-105) oa qO t qT hR htl (by omega) 58 (by unfold RG; omega)) (fun r_ w_ h_ => ?_)
      rw [h_.1, h_.2]
      clear h_ w_ r_
      refine ⟨rfl, ?_⟩
      rw [wst_wst]
      refine r_ifb_eq (pc2 := 98) (tgt := 133) dX5_fault_95 rfl (by decide)  (fun h95 => ?_) (fun h95 => ?_)
      · rw [bz_f h95, Int.add_zero]
        have q42b : 42 ≤ (wst w 33 (mdO hl tk tl (13 * V - 1) V (-105) oa)).1 := h42
        have q33b : 33 < (wst w 33 (mdO hl tk tl (13 * V - 1) V (-105) oa)).1 := k33
        have qOb : (wst w 33 (mdO hl tk tl (13 * V - 1) V (-105) oa)).2.2 33 = mdO hl tk tl (13 * V - 1) V (-105) oa := wst_self
        have qTb : (wst w 33 (mdO hl tk tl (13 * V - 1) V (-105) oa)).2.2 41 = arO 80 t := by rw [wst_ne (by decide)]; exact hT
        refine r_aload_n (pc2 := 134) dX5_fault_133 rfl rfl ?_
        refine r_getf (pc2 := 137) dX5_fault_134 rfl fl_5_134 (by assumption) (by assumption) (by rfl) ?_
        refine r_aload_n (pc2 := 138) dX5_fault_137 rfl rfl ?_
        refine r_getf (pc2 := 141) dX5_fault_138 rfl fl_5_131 (by assumption) (by assumption) (by rfl) ?_
        refine r_icmp_ne (pc2 := 144) (tgt := 149) dX5_fault_141 rfl (by decide) (by omega) (by omega) (fun h141 => ?_) (fun h141 => ?_)
        · refine r_aload_n (pc2 := 150) dX5_fault_149 rfl rfl ?_
          refine r_getf (pc2 := 153) dX5_fault_150 rfl fl_5_134 (by assumption) (by assumption) (by rfl) ?_
          refine r_ret dX5_fault_153 rfl ?_
          exact Or.inl ⟨_, fault_3 hp (by omega) (by omega) h95 h47, rfl, _, _, _, _, rfl⟩
        · refine r_bipush (pc2 := 146) dX5_fault_144 rfl (by decide) ?_
          refine r_goto (tgt := 153) dX5_fault_146 (by decide) ?_
          refine r_ret dX5_fault_153 rfl ?_
          exact Or.inr ⟨rfl, _, _, _, _, end_1 hp (by omega) (by omega), rfl⟩
      · rw [bz_t h95, show 13 * V - 1 + 1 = 13 * V by omega]
        have hlt := h95.1
        have q42b : 42 ≤ (wst w 33 (mdO hl tk tl (13 * V) V (-105) oa)).1 := h42
        have q33b : 33 < (wst w 33 (mdO hl tk tl (13 * V) V (-105) oa)).1 := k33
        have qOb : (wst w 33 (mdO hl tk tl (13 * V) V (-105) oa)).2.2 33 = mdO hl tk tl (13 * V) V (-105) oa := wst_self
        have qTb : (wst w 33 (mdO hl tk tl (13 * V) V (-105) oa)).2.2 41 = arO 80 t := by rw [wst_ne (by decide)]; exact hT
        refine r_aload_n (pc2 := 99) dX5_fault_98 rfl rfl ?_
        refine r_aload_n (pc2 := 100) dX5_fault_99 rfl rfl ?_
        refine r_getf (pc2 := 103) dX5_fault_100 rfl fl_5_134 (by assumption) (by assumption) (by rfl) ?_
        refine r_putf (pc2 := 106) dX5_fault_103 rfl fl_5_152 (by assumption) (by assumption) (by exact Nat.le_of_ble_eq_true rfl) (by rfl) (by rfl) (by rfl) ?_
        try rw [wst_wst]
        show rn _ _ _ _ (wst w 33 (mdO hl tk tl (13 * V) V (-105) (13 * V))) _
        have q42c : 42 ≤ (wst w 33 (mdO hl tk tl (13 * V) V (-105) (13 * V))).1 := h42
        have q33c : 33 < (wst w 33 (mdO hl tk tl (13 * V) V (-105) (13 * V))).1 := k33
        have qOc : (wst w 33 (mdO hl tk tl (13 * V) V (-105) (13 * V))).2.2 33 = mdO hl tk tl (13 * V) V (-105) (13 * V) := wst_self
        have qTc : (wst w 33 (mdO hl tk tl (13 * V) V (-105) (13 * V))).2.2 41 = arO 80 t := by rw [wst_ne (by decide)]; exact hT
        refine r_aload_n (pc2 := 107) dX5_fault_106 rfl rfl ?_
        refine r_aload_n (pc2 := 108) dX5_fault_107 rfl rfl ?_
        refine r_bipush (pc2 := 110) dX5_fault_108 rfl (by decide) ?_
        refine r_aload_n (pc2 := 111) dX5_fault_110 rfl rfl ?_
        refine r_getf (pc2 := 114) dX5_fault_111 rfl fl_5_140 (by assumption) (by assumption) (by rfl) ?_
        refine r_callv_2 (pc2 := 117) dX5_fault_114 rfl rs_5_146 rfl (by decide) rfl (Nat.le_of_ble_eq_true rfl) (Nat.le_of_ble_eq_true rfl) (by assumption) (by assumption) (m_readsDigits _ q42c hl tk tl (13 * V) V (-105) (13 * V) qOc t qTc hR htl (by omega) 6 V (by omega) (by omega)) (fun r_ w_ h_ => ?_)
        obtain ⟨n, hn, hd, hx, e1, e2⟩ := h_
        rw [e1, e2]
        refine ⟨rfl, ?_⟩
        rw [wst_wst]
        have q42e : 42 ≤ (wst w 33 (mdO hl tk tl (13 * V + n) V (-105) (13 * V))).1 := h42
        have q33e : 33 < (wst w 33 (mdO hl tk tl (13 * V + n) V (-105) (13 * V))).1 := k33
        have qOe : (wst w 33 (mdO hl tk tl (13 * V + n) V (-105) (13 * V))).2.2 33 = mdO hl tk tl (13 * V + n) V (-105) (13 * V) := wst_self
        have qTe : (wst w 33 (mdO hl tk tl (13 * V + n) V (-105) (13 * V))).2.2 41 = arO 80 t := by rw [wst_ne (by decide)]; exact hT
        refine r_putf (pc2 := 120) dX5_fault_117 rfl fl_5_143 (by assumption) (by assumption) (by exact Nat.le_of_ble_eq_true rfl) (by rfl) (by rfl) (by rfl) ?_
        try rw [wst_wst]
        show rn _ _ _ _ (wst w 33 (mdO hl tk tl (13 * V + n) V n (13 * V))) _
        have q42d : 42 ≤ (wst w 33 (mdO hl tk tl (13 * V + n) V n (13 * V))).1 := h42
        have q33d : 33 < (wst w 33 (mdO hl tk tl (13 * V + n) V n (13 * V))).1 := k33
        have qOd : (wst w 33 (mdO hl tk tl (13 * V + n) V n (13 * V))).2.2 33 = mdO hl tk tl (13 * V + n) V n (13 * V) := wst_self
        have qTd : (wst w 33 (mdO hl tk tl (13 * V + n) V n (13 * V))).2.2 41 = arO 80 t := by rw [wst_ne (by decide)]; exact hT
        have hle : 13 * V + n ≤ tl := by
          by_cases hn0 : n = 0
          · omega
          · have := (hd (n - 1) (by omega) (by omega)).1
            omega
        refine r_aload_n (pc2 := 121) dX5_fault_120 rfl rfl ?_
        refine r_getf (pc2 := 124) dX5_fault_121 rfl fl_5_143 (by assumption) (by assumption) (by rfl) ?_
        refine r_iconst (pc2 := 125) dX5_fault_124 rfl ?_
        refine r_icmp_ge (pc2 := 128) (tgt := 133) dX5_fault_125 rfl (by decide) (by omega) (by omega) (fun h125 => ?_) (fun h125 => ?_)
        · refine r_aload_n (pc2 := 134) dX5_fault_133 rfl rfl ?_
          refine r_getf (pc2 := 137) dX5_fault_134 rfl fl_5_134 (by assumption) (by assumption) (by rfl) ?_
          refine r_aload_n (pc2 := 138) dX5_fault_137 rfl rfl ?_
          refine r_getf (pc2 := 141) dX5_fault_138 rfl fl_5_131 (by assumption) (by assumption) (by rfl) ?_
          refine r_icmp_ne (pc2 := 144) (tgt := 149) dX5_fault_141 rfl (by decide) (by omega) (by omega) (fun h141 => ?_) (fun h141 => ?_)
          · refine r_aload_n (pc2 := 150) dX5_fault_149 rfl rfl ?_
            refine r_getf (pc2 := 153) dX5_fault_150 rfl fl_5_134 (by assumption) (by assumption) (by rfl) ?_
            refine r_ret dX5_fault_153 rfl ?_
            exact Or.inl ⟨_, fault_4 hp (by omega) (by omega) h95 hn hd hx (Or.inr (by omega)), rfl, _, _, _, _, rfl⟩
          · refine r_bipush (pc2 := 146) dX5_fault_144 rfl (by decide) ?_
            refine r_goto (tgt := 153) dX5_fault_146 (by decide) ?_
            refine r_ret dX5_fault_153 rfl ?_
            exact Or.inr ⟨rfl, _, _, _, _, end_2 hp (by omega) h95 (by omega) hd (by omega), rfl⟩
        · refine r_aload_n (pc2 := 129) dX5_fault_128 rfl rfl ?_
          refine r_getf (pc2 := 132) dX5_fault_129 rfl fl_5_134 (by assumption) (by assumption) (by rfl) ?_
          refine r_ret dX5_fault_132 rfl ?_
          exact Or.inl ⟨_, fault_4 hp (by omega) (by omega) h95 hn hd hx (Or.inl (by omega)), rfl, _, _, _, _, rfl⟩
    · refine r_aload_n (pc2 := 85) dX5_fault_84 rfl rfl ?_
      refine r_getf (pc2 := 88) dX5_fault_85 rfl fl_5_134 (by assumption) (by assumption) (by rfl) ?_
      refine r_ret dX5_fault_88 rfl ?_
      have e12 : 13 * V - 1 = 12 := by omega
      rw [e12] at hp h47 ⊢
      refine Or.inl ⟨12, fault_2 hp (by omega) ?_, rfl, _, _, _, _, rfl⟩
      rcases h47 with h47 | h47
      · omega
      · exact h47
  have zero : ∀ (V : Int), (1 ≤ V ∧ V ≤ 4) → pat t (13 * V - 1) → 13 * V - 1 ≤ tl → (V = 4 ∨ ¬ inO t tl 47 47 (13 * V - 1)) → rn MX5_fault 18 [some (.ref 33), some (.int (iN 0))] [] (wst w 33 (mdO hl tk tl (13 * V - 1) V (-105) oa)) (fun r' w' => (∃ q : Int, badF t tl q ∧ r' = some (.int (iN q)) ∧ ∃ sp2 rv2 rs2 oa2 : Int, w' = (wst w 33 (mdO hl tk tl sp2 rv2 rs2 oa2))) ∨ (r' = some (.int (iN (-105))) ∧ ∃ sp2 rv2 rs2 oa2 : Int, goodF t tl rv2 rs2 oa2 ∧ w' = (wst w 33 (mdO hl tk tl sp2 rv2 rs2 oa2)))) := by
    intro V hV hp hs h47
    refine r_iload_n (pc2 := 19) dX5_fault_18 rfl rfl ?_
    refine r_if_eq (pc2 := 22) (tgt := 76) dX5_fault_19 rfl (by decide) (by omega) (fun h19 => ?_) (fun h19 => ?_)
    · exact tail V hV hp hs h47
    · exact absurd rfl h19
  have loop : ∀ (n : Nat) (V : Int), (0 ≤ V ∧ V ≤ 3 ∧ 4 ≤ V + n) → pat t (13 * V) → 13 * V ≤ tl → rn MX5_fault 18 [some (.ref 33), some (.int (iN 1))] [] (wst w 33 (mdO hl tk tl (13 * V) V (-105) oa)) (fun r' w' => (∃ q : Int, badF t tl q ∧ r' = some (.int (iN q)) ∧ ∃ sp2 rv2 rs2 oa2 : Int, w' = (wst w 33 (mdO hl tk tl sp2 rv2 rs2 oa2))) ∨ (r' = some (.int (iN (-105))) ∧ ∃ sp2 rv2 rs2 oa2 : Int, goodF t tl rv2 rs2 oa2 ∧ w' = (wst w 33 (mdO hl tk tl sp2 rv2 rs2 oa2)))) := by
    intro n
    induction n with
    | zero =>
      intro V hV
      exfalso
      omega
    | succ n ih =>
      intro V hV hp hs
      have q42 : 42 ≤ (wst w 33 (mdO hl tk tl (13 * V) V (-105) oa)).1 := h42
      have q33 : 33 < (wst w 33 (mdO hl tk tl (13 * V) V (-105) oa)).1 := k33
      have qO : (wst w 33 (mdO hl tk tl (13 * V) V (-105) oa)).2.2 33 = mdO hl tk tl (13 * V) V (-105) oa := wst_self
      have qT : (wst w 33 (mdO hl tk tl (13 * V) V (-105) oa)).2.2 41 = arO 80 t := by rw [wst_ne (by decide)]; exact hT
      refine r_iload_n (pc2 := 19) dX5_fault_18 rfl rfl ?_
      refine r_if_eq (pc2 := 22) (tgt := 76) dX5_fault_19 rfl (by decide) (by omega) (fun h19 => ?_) (fun h19 => ?_)
      · exfalso
        omega
      · refine r_aload_n (pc2 := 23) dX5_fault_22 rfl rfl ?_
        refine r_bipush (pc2 := 25) dX5_fault_23 rfl (by decide) ?_
        refine r_bipush (pc2 := 27) dX5_fault_25 rfl (by decide) ?_
        refine r_callv_2 (pc2 := 30) dX5_fault_27 rfl rs_5_146 rfl (by decide) rfl (Nat.le_of_ble_eq_true rfl) (Nat.le_of_ble_eq_true rfl) (by assumption) (by assumption) (m_readsDigits _ q42 hl tk tl (13 * V) V (-105) oa qO t qT hR htl (by omega) 12 10 (by omega) (by omega)) (fun r_ w_ h_ => ?_)
        obtain ⟨m, hn, hd, hx, e1, e2⟩ := h_
        rw [e1, e2]
        refine ⟨rfl, ?_⟩
        rw [wst_wst]
        rw [show (48 + 10 - 1 : Int) = 57 by decide] at hd hx
        refine r_bipush (pc2 := 32) dX5_fault_30 rfl (by decide) ?_
        refine r_icmp_ge (pc2 := 35) (tgt := 40) dX5_fault_32 rfl (by decide) (by omega) (by omega) (fun h32 => ?_) (fun h32 => ?_)
        · have hn12 : m = 12 := by omega
          subst hn12
          have hle := (hd 11 (by omega) (by omega)).1
          have hp2 := pat_more (by omega) hp hV.1 (by omega) hd
          have q42b : 42 ≤ (wst w 33 (mdO hl tk tl (13 * V + 12) V (-105) oa)).1 := h42
          have q33b : 33 < (wst w 33 (mdO hl tk tl (13 * V + 12) V (-105) oa)).1 := k33
          have qOb : (wst w 33 (mdO hl tk tl (13 * V + 12) V (-105) oa)).2.2 33 = mdO hl tk tl (13 * V + 12) V (-105) oa := wst_self
          have qTb : (wst w 33 (mdO hl tk tl (13 * V + 12) V (-105) oa)).2.2 41 = arO 80 t := by rw [wst_ne (by decide)]; exact hT
          refine r_aload_n (pc2 := 41) dX5_fault_40 rfl rfl ?_
          refine r_dup (pc2 := 42) dX5_fault_41 rfl rfl ?_
          refine r_getf (pc2 := 45) dX5_fault_42 rfl fl_5_140 (by assumption) (by assumption) (by rfl) ?_
          refine r_iconst (pc2 := 46) dX5_fault_45 rfl ?_
          refine r_iadd (pc2 := 47) dX5_fault_46 rfl ?_
          refine r_putf (pc2 := 50) dX5_fault_47 rfl fl_5_140 (by assumption) (by assumption) (by exact Nat.le_of_ble_eq_true rfl) (by rfl) (by rfl) (by rfl) ?_
          try rw [wst_wst]
          show rn _ _ _ _ (wst w 33 (mdO hl tk tl (13 * V + 12) (V + 1) (-105) oa)) _
          have q42c : 42 ≤ (wst w 33 (mdO hl tk tl (13 * V + 12) (V + 1) (-105) oa)).1 := h42
          have q33c : 33 < (wst w 33 (mdO hl tk tl (13 * V + 12) (V + 1) (-105) oa)).1 := k33
          have qOc : (wst w 33 (mdO hl tk tl (13 * V + 12) (V + 1) (-105) oa)).2.2 33 = mdO hl tk tl (13 * V + 12) (V + 1) (-105) oa := wst_self
          have qTc : (wst w 33 (mdO hl tk tl (13 * V + 12) (V + 1) (-105) oa)).2.2 41 = arO 80 t := by rw [wst_ne (by decide)]; exact hT
          refine r_aload_n (pc2 := 51) dX5_fault_50 rfl rfl ?_
          refine r_getf (pc2 := 54) dX5_fault_51 rfl fl_5_140 (by assumption) (by assumption) (by rfl) ?_
          refine r_iconst (pc2 := 55) dX5_fault_54 rfl ?_
          refine r_icmp_ge (pc2 := 58) (tgt := 71) dX5_fault_55 rfl (by decide) (by omega) (by omega) (fun h55 => ?_) (fun h55 => ?_)
          · refine r_iconst (pc2 := 72) dX5_fault_71 rfl ?_
            refine r_ist_1 (pc2 := 73) dX5_fault_72 rfl rfl ?_
            refine r_goto (tgt := 18) dX5_fault_73 (by decide) ?_
            first
              | exact ih (V + 1) (by omega) (pat_next hp2 hV.1 h64) (by omega)
              | (have hz := zero (V + 1) (by omega) (by rw [show 13 * (V + 1) - 1 = 13 * V + 12 by omega]; exact hp2) (by omega) (by rw [show 13 * (V + 1) - 1 = 13 * V + 12 by omega]; first | exact Or.inr h64 | exact Or.inl (by omega)); rw [show 13 * (V + 1) - 1 = 13 * V + 12 by omega] at hz; exact hz)
          · refine r_aload_n (pc2 := 59) dX5_fault_58 rfl rfl ?_
            refine r_bipush (pc2 := 61) dX5_fault_59 rfl (by decide) ?_
            refine r_callv_1 (pc2 := 64) dX5_fault_61 rfl rs_5_149 rfl (by decide) rfl (Nat.le_of_ble_eq_true rfl) (Nat.le_of_ble_eq_true rfl) (by assumption) (by assumption) (m_takes _ q42c hl tk tl (13 * V + 12) (V + 1) (-105) oa qOc t qTc hR htl (by omega) 47 (by unfold RG; omega)) (fun r_ w_ h_ => ?_)
            rw [h_.1, h_.2]
            clear h_ w_ r_
            refine ⟨rfl, ?_⟩
            rw [wst_wst]
            refine r_ifb_eq (pc2 := 67) (tgt := 71) dX5_fault_64 rfl (by decide)  (fun h64 => ?_) (fun h64 => ?_)
            · rw [bz_f h64, Int.add_zero]
              refine r_iconst (pc2 := 72) dX5_fault_71 rfl ?_
              refine r_ist_1 (pc2 := 73) dX5_fault_72 rfl rfl ?_
              refine r_goto (tgt := 18) dX5_fault_73 (by decide) ?_
              first
                | exact ih (V + 1) (by omega) (pat_next hp2 hV.1 h64) (by omega)
                | (have hz := zero (V + 1) (by omega) (by rw [show 13 * (V + 1) - 1 = 13 * V + 12 by omega]; exact hp2) (by omega) (by rw [show 13 * (V + 1) - 1 = 13 * V + 12 by omega]; first | exact Or.inr h64 | exact Or.inl (by omega)); rw [show 13 * (V + 1) - 1 = 13 * V + 12 by omega] at hz; exact hz)
            · rw [bz_t h64, show 13 * V + 12 + 1 = 13 * (V + 1) by omega]
              have hlt := h64.1
              refine r_iconst (pc2 := 68) dX5_fault_67 rfl ?_
              refine r_goto (tgt := 72) dX5_fault_68 (by decide) ?_
              refine r_ist_1 (pc2 := 73) dX5_fault_72 rfl rfl ?_
              refine r_goto (tgt := 18) dX5_fault_73 (by decide) ?_
              first
                | exact ih (V + 1) (by omega) (pat_next hp2 hV.1 h64) (by omega)
                | (have hz := zero (V + 1) (by omega) (by rw [show 13 * (V + 1) - 1 = 13 * V + 12 by omega]; exact hp2) (by omega) (by rw [show 13 * (V + 1) - 1 = 13 * V + 12 by omega]; first | exact Or.inr h64 | exact Or.inl (by omega)); rw [show 13 * (V + 1) - 1 = 13 * V + 12 by omega] at hz; exact hz)
        · have q42b : 42 ≤ (wst w 33 (mdO hl tk tl (13 * V + m) V (-105) oa)).1 := h42
          have q33b : 33 < (wst w 33 (mdO hl tk tl (13 * V + m) V (-105) oa)).1 := k33
          have qOb : (wst w 33 (mdO hl tk tl (13 * V + m) V (-105) oa)).2.2 33 = mdO hl tk tl (13 * V + m) V (-105) oa := wst_self
          have qTb : (wst w 33 (mdO hl tk tl (13 * V + m) V (-105) oa)).2.2 41 = arO 80 t := by rw [wst_ne (by decide)]; exact hT
          refine r_aload_n (pc2 := 36) dX5_fault_35 rfl rfl ?_
          refine r_getf (pc2 := 39) dX5_fault_36 rfl fl_5_134 (by assumption) (by assumption) (by rfl) ?_
          refine r_ret dX5_fault_39 rfl ?_
          have hle : 13 * V + m ≤ tl := by
            by_cases hn0 : m = 0
            · omega
            · have := (hd (m - 1) (by omega) (by omega)).1
              omega
          refine Or.inl ⟨_, fault_1 hp (by omega) (by omega) (by omega) hle hd ?_, rfl, _, _, _, _, rfl⟩
          rcases hx with hx | hx
          · omega
          · exact hx
  refine r_aload_n (pc2 := 1) dX5_fault_0 rfl rfl ?_
  refine r_iconst (pc2 := 2) dX5_fault_1 rfl ?_
  refine r_putf (pc2 := 5) dX5_fault_2 rfl fl_5_134 (by assumption) (by assumption) (by exact Nat.le_of_ble_eq_true rfl) (by rfl) (by rfl) (by rfl) ?_
  try rw [wst_wst]
  show rn _ _ _ _ (wst w 33 (mdO hl tk tl 0 rv rs oa)) _
  have q421 : 42 ≤ (wst w 33 (mdO hl tk tl 0 rv rs oa)).1 := h42
  have q331 : 33 < (wst w 33 (mdO hl tk tl 0 rv rs oa)).1 := k33
  have qO1 : (wst w 33 (mdO hl tk tl 0 rv rs oa)).2.2 33 = mdO hl tk tl 0 rv rs oa := wst_self
  have qT1 : (wst w 33 (mdO hl tk tl 0 rv rs oa)).2.2 41 = arO 80 t := by rw [wst_ne (by decide)]; exact hT
  refine r_aload_n (pc2 := 6) dX5_fault_5 rfl rfl ?_
  refine r_iconst (pc2 := 7) dX5_fault_6 rfl ?_
  refine r_putf (pc2 := 10) dX5_fault_7 rfl fl_5_140 (by assumption) (by assumption) (by exact Nat.le_of_ble_eq_true rfl) (by rfl) (by rfl) (by rfl) ?_
  try rw [wst_wst]
  show rn _ _ _ _ (wst w 33 (mdO hl tk tl 0 0 rs oa)) _
  have q422 : 42 ≤ (wst w 33 (mdO hl tk tl 0 0 rs oa)).1 := h42
  have q332 : 33 < (wst w 33 (mdO hl tk tl 0 0 rs oa)).1 := k33
  have qO2 : (wst w 33 (mdO hl tk tl 0 0 rs oa)).2.2 33 = mdO hl tk tl 0 0 rs oa := wst_self
  have qT2 : (wst w 33 (mdO hl tk tl 0 0 rs oa)).2.2 41 = arO 80 t := by rw [wst_ne (by decide)]; exact hT
  refine r_aload_n (pc2 := 11) dX5_fault_10 rfl rfl ?_
  refine r_bipush (pc2 := 13) dX5_fault_11 rfl (by decide) ?_
  refine r_putf (pc2 := 16) dX5_fault_13 rfl fl_5_143 (by assumption) (by assumption) (by exact Nat.le_of_ble_eq_true rfl) (by rfl) (by rfl) (by rfl) ?_
  try rw [wst_wst]
  show rn _ _ _ _ (wst w 33 (mdO hl tk tl 0 0 (-105) oa)) _
  have q423 : 42 ≤ (wst w 33 (mdO hl tk tl 0 0 (-105) oa)).1 := h42
  have q333 : 33 < (wst w 33 (mdO hl tk tl 0 0 (-105) oa)).1 := k33
  have qO3 : (wst w 33 (mdO hl tk tl 0 0 (-105) oa)).2.2 33 = mdO hl tk tl 0 0 (-105) oa := wst_self
  have qT3 : (wst w 33 (mdO hl tk tl 0 0 (-105) oa)).2.2 41 = arO 80 t := by rw [wst_ne (by decide)]; exact hT
  refine r_iconst (pc2 := 17) dX5_fault_16 rfl ?_
  refine r_ist_1 (pc2 := 18) dX5_fault_17 rfl rfl ?_
  have := loop 4 0 (by omega) (fun j hj => by omega) (by omega)
  exact this
