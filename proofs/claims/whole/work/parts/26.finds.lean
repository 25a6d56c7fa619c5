/-! the reference finds the best order -/
def mdW (w : av_W) (A B H S : Nat → Int) : av_W := wst (wst (wst (wst w 38 (arO 228 S)) 40 (arO 6 H)) 39 (arO 6 B)) 34 (arO 61 A)
theorem mdW_34 (w : av_W) (A B H S A2 : Nat → Int) : wst (mdW w A B H S) 34 (arO 61 A2) = mdW w A2 B H S := by
  unfold mdW
  rw [wst_wst]
theorem mdW_39 (w : av_W) (A B H S B2 : Nat → Int) : wst (mdW w A B H S) 39 (arO 6 B2) = mdW w A B2 H S := by
  unfold mdW
  rw [wst_comm _ (arO 61 A) (arO 6 B2) (by decide), wst_wst]
theorem mdW_40 (w : av_W) (A B H S H2 : Nat → Int) : wst (mdW w A B H S) 40 (arO 6 H2) = mdW w A B H2 S := by
  unfold mdW
  rw [wst_comm _ (arO 61 A) (arO 6 H2) (by decide), wst_comm _ (arO 6 B) (arO 6 H2) (by decide), wst_wst]
theorem mdW_38 (w : av_W) (A B H S S2 : Nat → Int) : wst (mdW w A B H S) 38 (arO 228 S2) = mdW w A B H S2 := by
  unfold mdW
  rw [wst_comm _ (arO 61 A) (arO 228 S2) (by decide), wst_comm _ (arO 6 B) (arO 228 S2) (by decide), wst_comm _ (arO 6 H) (arO 228 S2) (by decide), wst_wst]
theorem mdW_id {w : av_W} {A B H S : Nat → Int} (h1 : w.2.2 34 = arO 61 A) (h2 : w.2.2 39 = arO 6 B) (h3 : w.2.2 40 = arO 6 H) (h4 : w.2.2 38 = arO 228 S) : mdW w A B H S = w := by
  unfold mdW
  rw [wst_id h4, wst_id h3, wst_id h2, wst_id h1]
theorem mdW_n (w : av_W) (A B H S : Nat → Int) : (mdW w A B H S).1 = w.1 := rfl
theorem mdW_at34 {w : av_W} {A B H S : Nat → Int} : (mdW w A B H S).2.2 34 = arO 61 A := wst_self
theorem mdW_at39 {w : av_W} {A B H S : Nat → Int} : (mdW w A B H S).2.2 39 = arO 6 B := by
  unfold mdW
  rw [wst_ne (by decide), wst_self]
theorem mdW_at40 {w : av_W} {A B H S : Nat → Int} : (mdW w A B H S).2.2 40 = arO 6 H := by
  unfold mdW
  rw [wst_ne (by decide), wst_ne (by decide), wst_self]
theorem mdW_at38 {w : av_W} {A B H S : Nat → Int} : (mdW w A B H S).2.2 38 = arO 228 S := by
  unfold mdW
  rw [wst_ne (by decide), wst_ne (by decide), wst_ne (by decide), wst_self]
theorem mdW_out {w : av_W} {A B H S : Nat → Int} {k : Nat} (h1 : k ≠ 34) (h2 : k ≠ 38) (h3 : k ≠ 39) (h4 : k ≠ 40) : (mdW w A B H S).2.2 k = w.2.2 k := by
  unfold mdW
  rw [wst_ne h1, wst_ne h3, wst_ne h4, wst_ne h2]
def mnR (v p : Int) : Nat → Int
  | 0 => 1
  | n + 1 => mnR v p n * (if (n : Int) < p then v else 1)
theorem mnR_rg {v p : Int} (hv : 2 ≤ v ∧ v ≤ 4) : ∀ n : Nat, n ≤ 6 → 1 ≤ mnR v p n ∧ mnR v p n ≤ 4096 := by
  have h : ∀ n : Nat, 1 ≤ mnR v p n ∧ mnR v p n ≤ 4 ^ n := by
    intro n
    induction n with
    | zero => simp [mnR]
    | succ n ih =>
      unfold mnR
      have e : (4 : Int) ^ (n + 1) = 4 ^ n * 4 := Int.pow_succ 4 n
      rw [e]
      split
      · rcases (show v = 2 ∨ v = 3 ∨ v = 4 by omega) with h | h | h <;> subst h <;> omega
      · omega
  intro n hn
  have h1 := h n
  have h2 : (4 : Int) ^ n ≤ 4096 := by
    rcases (show n = 0 ∨ n = 1 ∨ n = 2 ∨ n = 3 ∨ n = 4 ∨ n = 5 ∨ n = 6 by omega) with h | h | h | h | h | h | h <;> subst h <;> decide
  omega
/-- the least number of ghosts so far, and the number of its order -/
def bsR (g so : Nat → Int) : Nat → Int × Int
  | 0 => (-1, -1)
  | n + 1 => if cvO (g 0) (g 1) n ∧ ((bsR g so n).1 < 0 ∨ mgG (odF (g 0) (g 1) n (-1) g) so < (bsR g so n).1) then (mgG (odF (g 0) (g 1) n (-1) g) so, n) else bsR g so n
def bsB (g be : Nat → Int) (x : Int) : Nat → Int := if x < 0 then be else preF 6 (fun j => odF (g 0) (g 1) x (-1) g (7 + j)) be
theorem bsR_rg (g so : Nat → Int) (n : Nat) : (-1 ≤ (bsR g so n).1 ∧ (bsR g so n).1 ≤ 228) ∧ (-1 ≤ (bsR g so n).2 ∧ (bsR g so n).2 < n) := by
  induction n with
  | zero => simp [bsR]
  | succ n ih =>
    have h := mgG_rg (odF (g 0) (g 1) n (-1) g) so
    unfold bsR
    split
    · dsimp only
      omega
    · omega
theorem bsB_0 (g be : Nat → Int) : bsB g be (-1) = be := if_pos (by decide)
theorem bsB_pre {g be : Nat → Int} {x k : Int} (f : Nat → Int) : preF k f (bsB g be x) = preF k f (if x < 0 then be else preF 6 (fun j => odF (g 0) (g 1) x (-1) g (7 + j)) be) := rfl
theorem bsB_new {g be : Nat → Int} {x k : Int} (hk : 0 ≤ k) : preF 6 (fun j => odF (g 0) (g 1) k (-1) g (7 + j)) (bsB g be x) = bsB g be k := by
  funext j
  unfold bsB
  rw [if_neg (show ¬ k < 0 by omega)]
  by_cases h : (j : Int) < 6
  · rw [preF_lt h, preF_lt h]
  · rw [preF_ge h, preF_ge h]
    split
    · rfl
    · rw [preF_ge h]
def outS (p : Int) (A g : Nat → Int) : Prop := ∀ j : Nat, ¬ (7 ≤ j ∧ (j : Int) < 7 + p) → A j = g j
theorem odF_out {v p x : Int} {A g : Nat → Int} (h : outS p A g) : odF v p x (-1) A = odF v p x (-1) g := by
  funext j
  unfold odF
  by_cases h1 : 7 + -1 < (j : Int) ∧ (j : Int) < 7 + p
  · rw [if_pos h1, if_pos h1]
  · rw [if_neg h1, if_neg h1]
    exact h j (by omega)
theorem outS_od (v p x : Int) (g : Nat → Int) : outS p (odF v p x (-1) g) g := by
  intro j h
  exact if_neg (by omega)
theorem GR_out {p : Int} {A g : Nat → Int} (h : outS p A g) (hg : GR g) : GR A := by
  unfold GR
  rw [h 0 (by omega), h 1 (by omega), h 2 (by omega), h 3 (by omega)]
  exact hg
theorem GS_od {v p x : Int} {g : Nat → Int} (hv : 2 ≤ v ∧ v ≤ 4) (hg : GS g) : GS (odF v p x (-1) g) := by
  intro j hj
  unfold odF
  split
  · have := dgO_rg (p := p) (n := x) hv.1 (7 + j - 7)
    omega
  · exact hg j hj
theorem loF_SoR {p sh ln : Int} (hp : 2 ≤ p ∧ p ≤ 6) (so : Nat → Int) : SoR (preF 228 (loF p sh ln) so) := by
  intro j hj
  rw [preF_lt (by omega)]
  exact slM_rg hp

set_option maxHeartbeats 4000000 in
theorem m_findsOrder (w : av_W) (h42 : 42 ≤ w.1) (hl tk tl sp rv rs oa : Int) (hO : w.2.2 33 = mdO hl tk tl sp rv rs oa) (g : Nat → Int) (hA : w.2.2 34 = arO 61 g) (hGR : GR g) (hGS : GS g) (so : Nat → Int) (hS : w.2.2 38 = arO 228 so) (be hd : Nat → Int) (hB : w.2.2 39 = arO 6 be) (hH : w.2.2 40 = arO 6 hd) : fn MX5_findsOrder [.ref 33] w none (mdW w g (bsB g be (bsR g (preF 228 (loF (g 1) (g 2) (g 3)) so) (mnR (g 0) (g 1) 6).toNat).2) (preF 6 (fun j => g (7 + j)) hd) (preF 228 (loF (g 1) (g 2) (g 3)) so)) := by
  have k33 : 33 < w.1 := by omega
  have k34 : 34 < w.1 := by omega
  have k38 : 38 < w.1 := by omega
  have k39 : 39 < w.1 := by omega
  have k40 : 40 < w.1 := by omega
  obtain ⟨hv, hp, hsh, hln⟩ := id hGR
  show rn MX5_findsOrder 0 [some (.ref 33), none, none, none, none, none] [] w (fun r' w' => r' = none ∧ w' = (mdW w g (bsB g be (bsR g (preF 228 (loF (g 1) (g 2) (g 3)) so) (mnR (g 0) (g 1) 6).toNat).2) (preF 6 (fun j => g (7 + j)) hd) (preF 228 (loF (g 1) (g 2) (g 3)) so)))
  have loopR : ∀ (n : Nat) (k : Int) (A : Nat → Int) (b1 b4 b5 : Option Value) (L : Int), (0 ≤ k ∧ k ≤ 6 ∧ 7 ≤ k + n) → (outS (g 1) A g) → rn MX5_findsOrder 144 [some (.ref 33), b1, some (.int (iN L)), some (.int (iN k)), b4, b5] [] (mdW w (fun j : Nat => if 7 ≤ j ∧ (j : Int) < 7 + k then g j else A j) (bsB g be (bsR g (preF 228 (loF (g 1) (g 2) (g 3)) so) (mnR (g 0) (g 1) 6).toNat).2) (preF 6 (fun j => g (7 + j)) hd) (preF 228 (loF (g 1) (g 2) (g 3)) so)) (fun r' w' => r' = none ∧ w' = (mdW w g (bsB g be (bsR g (preF 228 (loF (g 1) (g 2) (g 3)) so) (mnR (g 0) (g 1) 6).toNat).2) (preF 6 (fun j => g (7 + j)) hd) (preF 228 (loF (g 1) (g 2) (g 3)) so))) := by
    intro n
    induction n with
    | zero =>
      intro k A b1 b4 b5 L hk0 hk1
      exfalso
      omega
    | succ n ih =>
      intro k A b1 b4 b5 L hk0 hk1
      have q42 : 42 ≤ (mdW w (fun j : Nat => if 7 ≤ j ∧ (j : Int) < 7 + k then g j else A j) (bsB g be (bsR g (preF 228 (loF (g 1) (g 2) (g 3)) so) (mnR (g 0) (g 1) 6).toNat).2) (preF 6 (fun j => g (7 + j)) hd) (preF 228 (loF (g 1) (g 2) (g 3)) so)).1 := h42
      have q33 : 33 < (mdW w (fun j : Nat => if 7 ≤ j ∧ (j : Int) < 7 + k then g j else A j) (bsB g be (bsR g (preF 228 (loF (g 1) (g 2) (g 3)) so) (mnR (g 0) (g 1) 6).toNat).2) (preF 6 (fun j => g (7 + j)) hd) (preF 228 (loF (g 1) (g 2) (g 3)) so)).1 := k33
      have qO : (mdW w (fun j : Nat => if 7 ≤ j ∧ (j : Int) < 7 + k then g j else A j) (bsB g be (bsR g (preF 228 (loF (g 1) (g 2) (g 3)) so) (mnR (g 0) (g 1) 6).toNat).2) (preF 6 (fun j => g (7 + j)) hd) (preF 228 (loF (g 1) (g 2) (g 3)) so)).2.2 33 = mdO hl tk tl sp rv rs oa := (mdW_out (by decide) (by decide) (by decide) (by decide)).trans hO
      have q34 : 34 < (mdW w (fun j : Nat => if 7 ≤ j ∧ (j : Int) < 7 + k then g j else A j) (bsB g be (bsR g (preF 228 (loF (g 1) (g 2) (g 3)) so) (mnR (g 0) (g 1) 6).toNat).2) (preF 6 (fun j => g (7 + j)) hd) (preF 228 (loF (g 1) (g 2) (g 3)) so)).1 := k34
      have qA : (mdW w (fun j : Nat => if 7 ≤ j ∧ (j : Int) < 7 + k then g j else A j) (bsB g be (bsR g (preF 228 (loF (g 1) (g 2) (g 3)) so) (mnR (g 0) (g 1) 6).toNat).2) (preF 6 (fun j => g (7 + j)) hd) (preF 228 (loF (g 1) (g 2) (g 3)) so)).2.2 34 = arO 61 (fun j : Nat => if 7 ≤ j ∧ (j : Int) < 7 + k then g j else A j) := mdW_at34
      have q39 : 39 < (mdW w (fun j : Nat => if 7 ≤ j ∧ (j : Int) < 7 + k then g j else A j) (bsB g be (bsR g (preF 228 (loF (g 1) (g 2) (g 3)) so) (mnR (g 0) (g 1) 6).toNat).2) (preF 6 (fun j => g (7 + j)) hd) (preF 228 (loF (g 1) (g 2) (g 3)) so)).1 := k39
      have qB : (mdW w (fun j : Nat => if 7 ≤ j ∧ (j : Int) < 7 + k then g j else A j) (bsB g be (bsR g (preF 228 (loF (g 1) (g 2) (g 3)) so) (mnR (g 0) (g 1) 6).toNat).2) (preF 6 (fun j => g (7 + j)) hd) (preF 228 (loF (g 1) (g 2) (g 3)) so)).2.2 39 = arO 6 (bsB g be (bsR g (preF 228 (loF (g 1) (g 2) (g 3)) so) (mnR (g 0) (g 1) 6).toNat).2) := mdW_at39
      have q40 : 40 < (mdW w (fun j : Nat => if 7 ≤ j ∧ (j : Int) < 7 + k then g j else A j) (bsB g be (bsR g (preF 228 (loF (g 1) (g 2) (g 3)) so) (mnR (g 0) (g 1) 6).toNat).2) (preF 6 (fun j => g (7 + j)) hd) (preF 228 (loF (g 1) (g 2) (g 3)) so)).1 := k40
      have qH : (mdW w (fun j : Nat => if 7 ≤ j ∧ (j : Int) < 7 + k then g j else A j) (bsB g be (bsR g (preF 228 (loF (g 1) (g 2) (g 3)) so) (mnR (g 0) (g 1) 6).toNat).2) (preF 6 (fun j => g (7 + j)) hd) (preF 228 (loF (g 1) (g 2) (g 3)) so)).2.2 40 = arO 6 (preF 6 (fun j => g (7 + j)) hd) := mdW_at40
      have qS : (mdW w (fun j : Nat => if 7 ≤ j ∧ (j : Int) < 7 + k then g j else A j) (bsB g be (bsR g (preF 228 (loF (g 1) (g 2) (g 3)) so) (mnR (g 0) (g 1) 6).toNat).2) (preF 6 (fun j => g (7 + j)) hd) (preF 228 (loF (g 1) (g 2) (g 3)) so)).2.2 38 = arO 228 (preF 228 (loF (g 1) (g 2) (g 3)) so) := mdW_at38
      refine r_iload_n (pc2 := 145) dX5_findsOrder_144 rfl rfl ?_
      refine r_bipush (pc2 := 147) dX5_findsOrder_145 rfl (by decide) ?_
      refine r_icmp_ge (pc2 := 150) (tgt := 171) dX5_findsOrder_147 rfl (by decide) (by omega) (by omega) (fun h147 => ?_) (fun h147 => ?_)
      · have h6 : k = 6 := by omega
        subst h6
        refine r_retv dX5_findsOrder_171 rfl ?_
        have hfin : (fun j : Nat => if 7 ≤ j ∧ (j : Int) < 7 + 6 then g j else A j) = g := by
          funext j
          try dsimp only
          by_cases h2 : 7 ≤ j ∧ (j : Int) < 7 + 6
          · rw [if_pos h2]
          · rw [if_neg h2]
            exact hk1 j (by omega)
        exact ⟨rfl, by rw [hfin]⟩
      · refine r_aload_n (pc2 := 151) dX5_findsOrder_150 rfl rfl ?_
        refine r_getf (pc2 := 154) dX5_findsOrder_151 rfl fl_5_7 (by assumption) (by assumption) (by rfl) ?_
        refine r_bipush (pc2 := 156) dX5_findsOrder_154 rfl (by decide) ?_
        refine r_iload_n (pc2 := 157) dX5_findsOrder_156 rfl rfl ?_
        refine r_iadd (pc2 := 158) dX5_findsOrder_157 rfl ?_
        refine r_aload_n (pc2 := 159) dX5_findsOrder_158 rfl rfl ?_
        refine r_getf (pc2 := 162) dX5_findsOrder_159 rfl fl_5_28 (by assumption) (by assumption) (by rfl) ?_
        refine r_iload_n (pc2 := 163) dX5_findsOrder_162 rfl rfl ?_
        refine r_iald (pc2 := 164) dX5_findsOrder_163 rfl (by decide) (by assumption) (by assumption) (by omega) (by omega) (by omega) ?_
        refine r_iast (pc2 := 165) dX5_findsOrder_164 rfl (by assumption) (by assumption) (by omega) (by omega) (by omega) ?_
        rw [mdW_34, preF_lt (by omega)]
        have hstep : updZ (fun j : Nat => if 7 ≤ j ∧ (j : Int) < 7 + k then g j else A j) (7 + k).toNat (g (7 + k.toNat)) = (fun j : Nat => if 7 ≤ j ∧ (j : Int) < 7 + (k + 1) then g j else A j) := by
          funext j
          unfold updZ
          try dsimp only
          by_cases h : j = (7 + k).toNat
          · subst h
            rw [if_pos rfl, if_pos (by omega)]
            congr 1
            omega
          · rw [if_neg h]
            by_cases h2 : 7 ≤ j ∧ (j : Int) < 7 + k
            · rw [if_pos h2, if_pos (by omega)]
            · rw [if_neg h2, if_neg (by omega)]
        rw [hstep]
        refine r_iinc_3 (pc2 := 168) dX5_findsOrder_165 rfl rfl ?_
        refine r_goto (tgt := 144) dX5_findsOrder_168 (by decide) ?_
        exact ih (k + 1) A _ _ _ _ (by omega) hk1
  have loop : ∀ (n : Nat) (x : Int) (A : Nat → Int) (L q : Int) (b4 b5 : Option Value), (0 ≤ x ∧ x ≤ mnR (g 0) (g 1) 6 ∧ mnR (g 0) (g 1) 6 + 1 ≤ x + n) → (outS (g 1) A g) → ((L, q) = bsR g (preF 228 (loF (g 1) (g 2) (g 3)) so) x.toNat) → rn MX5_findsOrder 62 [some (.ref 33), some (.int (iN (mnR (g 0) (g 1) 6))), some (.int (iN L)), some (.int (iN x)), b4, b5] [] (mdW w A (bsB g be q) (preF 6 (fun j => g (7 + j)) hd) (preF 228 (loF (g 1) (g 2) (g 3)) so)) (fun r' w' => r' = none ∧ w' = (mdW w g (bsB g be (bsR g (preF 228 (loF (g 1) (g 2) (g 3)) so) (mnR (g 0) (g 1) 6).toNat).2) (preF 6 (fun j => g (7 + j)) hd) (preF 228 (loF (g 1) (g 2) (g 3)) so))) := by
    intro n
    induction n with
    | zero =>
      intro x A L q b4 b5 hk0 hk1 hk2
      exfalso
      omega
    | succ n ih =>
      intro x A L q b4 b5 hk0 hk1 hk2
      have hmn := mnR_rg (p := g 1) hv 6 (by omega)
      have hbr := bsR_rg g (preF 228 (loF (g 1) (g 2) (g 3)) so) x.toNat
      rw [← hk2] at hbr
      dsimp only at hbr
      have q42 : 42 ≤ (mdW w A (bsB g be q) (preF 6 (fun j => g (7 + j)) hd) (preF 228 (loF (g 1) (g 2) (g 3)) so)).1 := h42
      have q33 : 33 < (mdW w A (bsB g be q) (preF 6 (fun j => g (7 + j)) hd) (preF 228 (loF (g 1) (g 2) (g 3)) so)).1 := k33
      have qO : (mdW w A (bsB g be q) (preF 6 (fun j => g (7 + j)) hd) (preF 228 (loF (g 1) (g 2) (g 3)) so)).2.2 33 = mdO hl tk tl sp rv rs oa := (mdW_out (by decide) (by decide) (by decide) (by decide)).trans hO
      have q34 : 34 < (mdW w A (bsB g be q) (preF 6 (fun j => g (7 + j)) hd) (preF 228 (loF (g 1) (g 2) (g 3)) so)).1 := k34
      have qA : (mdW w A (bsB g be q) (preF 6 (fun j => g (7 + j)) hd) (preF 228 (loF (g 1) (g 2) (g 3)) so)).2.2 34 = arO 61 A := mdW_at34
      have q39 : 39 < (mdW w A (bsB g be q) (preF 6 (fun j => g (7 + j)) hd) (preF 228 (loF (g 1) (g 2) (g 3)) so)).1 := k39
      have qB : (mdW w A (bsB g be q) (preF 6 (fun j => g (7 + j)) hd) (preF 228 (loF (g 1) (g 2) (g 3)) so)).2.2 39 = arO 6 (bsB g be q) := mdW_at39
      have q40 : 40 < (mdW w A (bsB g be q) (preF 6 (fun j => g (7 + j)) hd) (preF 228 (loF (g 1) (g 2) (g 3)) so)).1 := k40
      have qH : (mdW w A (bsB g be q) (preF 6 (fun j => g (7 + j)) hd) (preF 228 (loF (g 1) (g 2) (g 3)) so)).2.2 40 = arO 6 (preF 6 (fun j => g (7 + j)) hd) := mdW_at40
      have qS : (mdW w A (bsB g be q) (preF 6 (fun j => g (7 + j)) hd) (preF 228 (loF (g 1) (g 2) (g 3)) so)).2.2 38 = arO 228 (preF 228 (loF (g 1) (g 2) (g 3)) so) := mdW_at38
      refine r_iload_n (pc2 := 63) dX5_findsOrder_62 rfl rfl ?_
      refine r_iload_n (pc2 := 64) dX5_findsOrder_63 rfl rfl ?_
      refine r_icmp_ge (pc2 := 67) (tgt := 142) dX5_findsOrder_64 rfl (by decide) (by omega) (by omega) (fun h64 => ?_) (fun h64 => ?_)
      · have h6 : x.toNat = (mnR (g 0) (g 1) 6).toNat := by omega
        refine r_iconst (pc2 := 143) dX5_findsOrder_142 rfl ?_
        refine r_ist_3 (pc2 := 144) dX5_findsOrder_143 rfl rfl ?_
        have h7 := loopR 7 0 A (some (.int (iN (mnR (g 0) (g 1) 6)))) b4 b5 L (by omega) hk1
        have hA0 : (fun j : Nat => if 7 ≤ j ∧ (j : Int) < 7 + 0 then g j else A j) = A := by
          funext j
          exact if_neg (by omega)
        rw [hA0] at h7
        have e9 : bsB g be q = (bsB g be (bsR g (preF 228 (loF (g 1) (g 2) (g 3)) so) (mnR (g 0) (g 1) 6).toNat).2) := by rw [← h6, ← hk2]
        rw [e9]
        exact h7
      · refine r_aload_n (pc2 := 68) dX5_findsOrder_67 rfl rfl ?_
        refine r_iload_n (pc2 := 69) dX5_findsOrder_68 rfl rfl ?_
        refine r_callv_1 (pc2 := 72) dX5_findsOrder_69 rfl rs_5_115 rfl (by decide) rfl (Nat.le_of_ble_eq_true rfl) (Nat.le_of_ble_eq_true rfl) (by assumption) (by assumption) (m_laysOrder _ q42 hl tk tl sp rv rs oa qO A qA (GR_out hk1 hGR) x (by omega)) (fun r_ w_ h_ => ?_)
        rw [h_.1, h_.2]
        clear h_ w_ r_
        refine ⟨rfl, ?_⟩
        rw [mdW_34, hk1 0 (by omega), hk1 1 (by omega), odF_out hk1]
        have hG := mgG_rg (odF (g 0) (g 1) x (-1) g) (preF 228 (loF (g 1) (g 2) (g 3)) so)
        have q42c : 42 ≤ (mdW w (odF (g 0) (g 1) x (-1) g) (bsB g be q) (preF 6 (fun j => g (7 + j)) hd) (preF 228 (loF (g 1) (g 2) (g 3)) so)).1 := h42
        have q33c : 33 < (mdW w (odF (g 0) (g 1) x (-1) g) (bsB g be q) (preF 6 (fun j => g (7 + j)) hd) (preF 228 (loF (g 1) (g 2) (g 3)) so)).1 := k33
        have qOc : (mdW w (odF (g 0) (g 1) x (-1) g) (bsB g be q) (preF 6 (fun j => g (7 + j)) hd) (preF 228 (loF (g 1) (g 2) (g 3)) so)).2.2 33 = mdO hl tk tl sp rv rs oa := (mdW_out (by decide) (by decide) (by decide) (by decide)).trans hO
        have q34c : 34 < (mdW w (odF (g 0) (g 1) x (-1) g) (bsB g be q) (preF 6 (fun j => g (7 + j)) hd) (preF 228 (loF (g 1) (g 2) (g 3)) so)).1 := k34
        have qAc : (mdW w (odF (g 0) (g 1) x (-1) g) (bsB g be q) (preF 6 (fun j => g (7 + j)) hd) (preF 228 (loF (g 1) (g 2) (g 3)) so)).2.2 34 = arO 61 (odF (g 0) (g 1) x (-1) g) := mdW_at34
        have q39c : 39 < (mdW w (odF (g 0) (g 1) x (-1) g) (bsB g be q) (preF 6 (fun j => g (7 + j)) hd) (preF 228 (loF (g 1) (g 2) (g 3)) so)).1 := k39
        have qBc : (mdW w (odF (g 0) (g 1) x (-1) g) (bsB g be q) (preF 6 (fun j => g (7 + j)) hd) (preF 228 (loF (g 1) (g 2) (g 3)) so)).2.2 39 = arO 6 (bsB g be q) := mdW_at39
        have q40c : 40 < (mdW w (odF (g 0) (g 1) x (-1) g) (bsB g be q) (preF 6 (fun j => g (7 + j)) hd) (preF 228 (loF (g 1) (g 2) (g 3)) so)).1 := k40
        have qHc : (mdW w (odF (g 0) (g 1) x (-1) g) (bsB g be q) (preF 6 (fun j => g (7 + j)) hd) (preF 228 (loF (g 1) (g 2) (g 3)) so)).2.2 40 = arO 6 (preF 6 (fun j => g (7 + j)) hd) := mdW_at40
        have qSc : (mdW w (odF (g 0) (g 1) x (-1) g) (bsB g be q) (preF 6 (fun j => g (7 + j)) hd) (preF 228 (loF (g 1) (g 2) (g 3)) so)).2.2 38 = arO 228 (preF 228 (loF (g 1) (g 2) (g 3)) so) := mdW_at38
        refine r_ifb_eq (pc2 := 75) (tgt := 82) dX5_findsOrder_72 rfl (by decide)  (fun h72 => ?_) (fun h72 => ?_)
        · have hnx : (L, q) = bsR g (preF 228 (loF (g 1) (g 2) (g 3)) so) (x + 1).toNat := by
            rw [show (x + 1).toNat = x.toNat + 1 by omega]
            show _ = if cvO (g 0) (g 1) ((x.toNat : Nat) : Int) ∧ ((bsR g (preF 228 (loF (g 1) (g 2) (g 3)) so) x.toNat).1 < 0 ∨ mgG (odF (g 0) (g 1) ((x.toNat : Nat) : Int) (-1) g) (preF 228 (loF (g 1) (g 2) (g 3)) so) < (bsR g (preF 228 (loF (g 1) (g 2) (g 3)) so) x.toNat).1) then (mgG (odF (g 0) (g 1) ((x.toNat : Nat) : Int) (-1) g) (preF 228 (loF (g 1) (g 2) (g 3)) so), ((x.toNat : Nat) : Int)) else _
            rw [tn hk0.1, ← hk2, if_neg (fun q => h72 q.1)]
          refine r_iconst (pc2 := 83) dX5_findsOrder_82 rfl ?_
          refine r_ist_4 (pc2 := 85) dX5_findsOrder_83 rfl rfl ?_
          refine r_iload (pc2 := 87) dX5_findsOrder_85 rfl rfl ?_
          refine r_if_lt (pc2 := 90) (tgt := 136) dX5_findsOrder_87 rfl (by decide) (by omega) (fun h87 => ?_) (fun h87 => ?_)
          · refine r_iinc_3 (pc2 := 139) dX5_findsOrder_136 rfl rfl ?_
            refine r_goto (tgt := 62) dX5_findsOrder_139 (by decide) ?_
            exact ih (x + 1) (odF (g 0) (g 1) x (-1) g) _ _ _ _ (by omega) (outS_od _ _ _ _) hnx
          · exfalso
            omega
        · refine r_aload_n (pc2 := 76) dX5_findsOrder_75 rfl rfl ?_
          refine r_callv_0 (pc2 := 79) dX5_findsOrder_76 rfl rs_5_74 rfl (by decide) rfl (Nat.le_of_ble_eq_true rfl) (Nat.le_of_ble_eq_true rfl) (by assumption) (by assumption) (m_ghosts _ q42c hl tk tl sp rv rs oa qOc (odF (g 0) (g 1) x (-1) g) qAc (GR_out (outS_od _ _ _ _) hGR) (GS_od hv hGS) (preF 228 (loF (g 1) (g 2) (g 3)) so) qSc (loF_SoR hp so)) (fun r_ w_ h_ => ?_)
          rw [h_.1, h_.2]
          clear h_ w_ r_
          refine ⟨rfl, ?_⟩
          refine r_goto (tgt := 83) dX5_findsOrder_79 (by decide) ?_
          refine r_ist_4 (pc2 := 85) dX5_findsOrder_83 rfl rfl ?_
          refine r_iload (pc2 := 87) dX5_findsOrder_85 rfl rfl ?_
          refine r_if_lt (pc2 := 90) (tgt := 136) dX5_findsOrder_87 rfl (by decide) (by omega) (fun h87 => ?_) (fun h87 => ?_)
          · exfalso
            omega
          · refine r_iload_n (pc2 := 91) dX5_findsOrder_90 rfl rfl ?_
            refine r_if_lt (pc2 := 94) (tgt := 100) dX5_findsOrder_91 rfl (by decide) (by omega) (fun h91 => ?_) (fun h91 => ?_)
            · have hnx : ((mgG (odF (g 0) (g 1) x (-1) g) (preF 228 (loF (g 1) (g 2) (g 3)) so)), x) = bsR g (preF 228 (loF (g 1) (g 2) (g 3)) so) (x + 1).toNat := by
                rw [show (x + 1).toNat = x.toNat + 1 by omega]
                show _ = if cvO (g 0) (g 1) ((x.toNat : Nat) : Int) ∧ ((bsR g (preF 228 (loF (g 1) (g 2) (g 3)) so) x.toNat).1 < 0 ∨ mgG (odF (g 0) (g 1) ((x.toNat : Nat) : Int) (-1) g) (preF 228 (loF (g 1) (g 2) (g 3)) so) < (bsR g (preF 228 (loF (g 1) (g 2) (g 3)) so) x.toNat).1) then (mgG (odF (g 0) (g 1) ((x.toNat : Nat) : Int) (-1) g) (preF 228 (loF (g 1) (g 2) (g 3)) so), ((x.toNat : Nat) : Int)) else _
                rw [tn hk0.1, ← hk2, if_pos ⟨h72, Or.inl h91⟩]
              refine r_iload (pc2 := 102) dX5_findsOrder_100 rfl rfl ?_
              refine r_ist_2 (pc2 := 103) dX5_findsOrder_102 rfl rfl ?_
              have inner : ∀ (n2 : Nat) (k : Int), (0 ≤ k ∧ k ≤ 6 ∧ 7 ≤ k + n2) → rn MX5_findsOrder 106 [some (.ref 33), some (.int (iN (mnR (g 0) (g 1) 6))), some (.int (iN (mgG (odF (g 0) (g 1) x (-1) g) (preF 228 (loF (g 1) (g 2) (g 3)) so)))), some (.int (iN x)), some (.int (iN (mgG (odF (g 0) (g 1) x (-1) g) (preF 228 (loF (g 1) (g 2) (g 3)) so)))), some (.int (iN k))] [] (mdW w (odF (g 0) (g 1) x (-1) g) (preF k (fun j => (odF (g 0) (g 1) x (-1) g) (7 + j)) (bsB g be q)) (preF 6 (fun j => g (7 + j)) hd) (preF 228 (loF (g 1) (g 2) (g 3)) so)) (fun r' w' => r' = none ∧ w' = (mdW w g (bsB g be (bsR g (preF 228 (loF (g 1) (g 2) (g 3)) so) (mnR (g 0) (g 1) 6).toNat).2) (preF 6 (fun j => g (7 + j)) hd) (preF 228 (loF (g 1) (g 2) (g 3)) so))) := by
                intro n2
                induction n2 with
                | zero =>
                  intro k hl20
                  exfalso
                  omega
                | succ n2 ih2 =>
                  intro k hl20
                  have q42i : 42 ≤ (mdW w (odF (g 0) (g 1) x (-1) g) (preF k (fun j => (odF (g 0) (g 1) x (-1) g) (7 + j)) (bsB g be q)) (preF 6 (fun j => g (7 + j)) hd) (preF 228 (loF (g 1) (g 2) (g 3)) so)).1 := h42
                  have q33i : 33 < (mdW w (odF (g 0) (g 1) x (-1) g) (preF k (fun j => (odF (g 0) (g 1) x (-1) g) (7 + j)) (bsB g be q)) (preF 6 (fun j => g (7 + j)) hd) (preF 228 (loF (g 1) (g 2) (g 3)) so)).1 := k33
                  have qOi : (mdW w (odF (g 0) (g 1) x (-1) g) (preF k (fun j => (odF (g 0) (g 1) x (-1) g) (7 + j)) (bsB g be q)) (preF 6 (fun j => g (7 + j)) hd) (preF 228 (loF (g 1) (g 2) (g 3)) so)).2.2 33 = mdO hl tk tl sp rv rs oa := (mdW_out (by decide) (by decide) (by decide) (by decide)).trans hO
                  have q34i : 34 < (mdW w (odF (g 0) (g 1) x (-1) g) (preF k (fun j => (odF (g 0) (g 1) x (-1) g) (7 + j)) (bsB g be q)) (preF 6 (fun j => g (7 + j)) hd) (preF 228 (loF (g 1) (g 2) (g 3)) so)).1 := k34
                  have qAi : (mdW w (odF (g 0) (g 1) x (-1) g) (preF k (fun j => (odF (g 0) (g 1) x (-1) g) (7 + j)) (bsB g be q)) (preF 6 (fun j => g (7 + j)) hd) (preF 228 (loF (g 1) (g 2) (g 3)) so)).2.2 34 = arO 61 (odF (g 0) (g 1) x (-1) g) := mdW_at34
                  have q39i : 39 < (mdW w (odF (g 0) (g 1) x (-1) g) (preF k (fun j => (odF (g 0) (g 1) x (-1) g) (7 + j)) (bsB g be q)) (preF 6 (fun j => g (7 + j)) hd) (preF 228 (loF (g 1) (g 2) (g 3)) so)).1 := k39
                  have qBi : (mdW w (odF (g 0) (g 1) x (-1) g) (preF k (fun j => (odF (g 0) (g 1) x (-1) g) (7 + j)) (bsB g be q)) (preF 6 (fun j => g (7 + j)) hd) (preF 228 (loF (g 1) (g 2) (g 3)) so)).2.2 39 = arO 6 (preF k (fun j => (odF (g 0) (g 1) x (-1) g) (7 + j)) (bsB g be q)) := mdW_at39
                  have q40i : 40 < (mdW w (odF (g 0) (g 1) x (-1) g) (preF k (fun j => (odF (g 0) (g 1) x (-1) g) (7 + j)) (bsB g be q)) (preF 6 (fun j => g (7 + j)) hd) (preF 228 (loF (g 1) (g 2) (g 3)) so)).1 := k40
                  have qHi : (mdW w (odF (g 0) (g 1) x (-1) g) (preF k (fun j => (odF (g 0) (g 1) x (-1) g) (7 + j)) (bsB g be q)) (preF 6 (fun j => g (7 + j)) hd) (preF 228 (loF (g 1) (g 2) (g 3)) so)).2.2 40 = arO 6 (preF 6 (fun j => g (7 + j)) hd) := mdW_at40
                  have qSi : (mdW w (odF (g 0) (g 1) x (-1) g) (preF k (fun j => (odF (g 0) (g 1) x (-1) g) (7 + j)) (bsB g be q)) (preF 6 (fun j => g (7 + j)) hd) (preF 228 (loF (g 1) (g 2) (g 3)) so)).2.2 38 = arO 228 (preF 228 (loF (g 1) (g 2) (g 3)) so) := mdW_at38
                  refine r_iload (pc2 := 108) dX5_findsOrder_106 rfl rfl ?_
                  refine r_bipush (pc2 := 110) dX5_findsOrder_108 rfl (by decide) ?_
                  refine r_icmp_ge (pc2 := 113) (tgt := 136) dX5_findsOrder_110 rfl (by decide) (by omega) (by omega) (fun h110 => ?_) (fun h110 => ?_)
                  · have h6 : k = 6 := by omega
                    subst h6
                    rw [bsB_new (by omega)]
                    refine r_iinc_3 (pc2 := 139) dX5_findsOrder_136 rfl rfl ?_
                    refine r_goto (tgt := 62) dX5_findsOrder_139 (by decide) ?_
                    exact ih (x + 1) (odF (g 0) (g 1) x (-1) g) _ _ _ _ (by omega) (outS_od _ _ _ _) hnx
                  · refine r_aload_n (pc2 := 114) dX5_findsOrder_113 rfl rfl ?_
                    refine r_getf (pc2 := 117) dX5_findsOrder_114 rfl fl_5_25 (by assumption) (by assumption) (by rfl) ?_
                    refine r_iload (pc2 := 119) dX5_findsOrder_117 rfl rfl ?_
                    refine r_aload_n (pc2 := 120) dX5_findsOrder_119 rfl rfl ?_
                    refine r_getf (pc2 := 123) dX5_findsOrder_120 rfl fl_5_7 (by assumption) (by assumption) (by rfl) ?_
                    refine r_bipush (pc2 := 125) dX5_findsOrder_123 rfl (by decide) ?_
                    refine r_iload (pc2 := 127) dX5_findsOrder_125 rfl rfl ?_
                    refine r_iadd (pc2 := 128) dX5_findsOrder_127 rfl ?_
                    refine r_iald (pc2 := 129) dX5_findsOrder_128 rfl (by decide) (by assumption) (by assumption) (by omega) (by omega) (by omega) ?_
                    refine r_iast (pc2 := 130) dX5_findsOrder_129 rfl (by assumption) (by assumption) (by omega) (by omega) (by omega) ?_
                    rw [mdW_39, show (7 + k).toNat = 7 + k.toNat by omega, preF_step hl20.1 (fun j => (odF (g 0) (g 1) x (-1) g) (7 + j))]
                    refine r_iinc_5 (pc2 := 133) dX5_findsOrder_130 rfl rfl ?_
                    refine r_goto (tgt := 106) dX5_findsOrder_133 (by decide) ?_
                    exact ih2 (k + 1) (by omega)
              refine r_iconst (pc2 := 104) dX5_findsOrder_103 rfl ?_
              refine r_ist_5 (pc2 := 106) dX5_findsOrder_104 rfl rfl ?_
              have := inner 7 0 (by omega)
              rw [preF_0] at this
              exact this
            · refine r_iload (pc2 := 96) dX5_findsOrder_94 rfl rfl ?_
              refine r_iload_n (pc2 := 97) dX5_findsOrder_96 rfl rfl ?_
              refine r_icmp_ge (pc2 := 100) (tgt := 136) dX5_findsOrder_97 rfl (by decide) (by omega) (by omega) (fun h97 => ?_) (fun h97 => ?_)
              · have hnx : (L, q) = bsR g (preF 228 (loF (g 1) (g 2) (g 3)) so) (x + 1).toNat := by
                  rw [show (x + 1).toNat = x.toNat + 1 by omega]
                  show _ = if cvO (g 0) (g 1) ((x.toNat : Nat) : Int) ∧ ((bsR g (preF 228 (loF (g 1) (g 2) (g 3)) so) x.toNat).1 < 0 ∨ mgG (odF (g 0) (g 1) ((x.toNat : Nat) : Int) (-1) g) (preF 228 (loF (g 1) (g 2) (g 3)) so) < (bsR g (preF 228 (loF (g 1) (g 2) (g 3)) so) x.toNat).1) then (mgG (odF (g 0) (g 1) ((x.toNat : Nat) : Int) (-1) g) (preF 228 (loF (g 1) (g 2) (g 3)) so), ((x.toNat : Nat) : Int)) else _
                  rw [tn hk0.1, ← hk2, if_neg (fun q => by have q2 := q.2; dsimp only at q2; omega)]
                refine r_iinc_3 (pc2 := 139) dX5_findsOrder_136 rfl rfl ?_
                refine r_goto (tgt := 62) dX5_findsOrder_139 (by decide) ?_
                exact ih (x + 1) (odF (g 0) (g 1) x (-1) g) _ _ _ _ (by omega) (outS_od _ _ _ _) hnx
              · have hnx : ((mgG (odF (g 0) (g 1) x (-1) g) (preF 228 (loF (g 1) (g 2) (g 3)) so)), x) = bsR g (preF 228 (loF (g 1) (g 2) (g 3)) so) (x + 1).toNat := by
                  rw [show (x + 1).toNat = x.toNat + 1 by omega]
                  show _ = if cvO (g 0) (g 1) ((x.toNat : Nat) : Int) ∧ ((bsR g (preF 228 (loF (g 1) (g 2) (g 3)) so) x.toNat).1 < 0 ∨ mgG (odF (g 0) (g 1) ((x.toNat : Nat) : Int) (-1) g) (preF 228 (loF (g 1) (g 2) (g 3)) so) < (bsR g (preF 228 (loF (g 1) (g 2) (g 3)) so) x.toNat).1) then (mgG (odF (g 0) (g 1) ((x.toNat : Nat) : Int) (-1) g) (preF 228 (loF (g 1) (g 2) (g 3)) so), ((x.toNat : Nat) : Int)) else _
                  rw [tn hk0.1, ← hk2, if_pos ⟨h72, Or.inr (by dsimp only; omega)⟩]
                refine r_iload (pc2 := 102) dX5_findsOrder_100 rfl rfl ?_
                refine r_ist_2 (pc2 := 103) dX5_findsOrder_102 rfl rfl ?_
                have inner : ∀ (n2 : Nat) (k : Int), (0 ≤ k ∧ k ≤ 6 ∧ 7 ≤ k + n2) → rn MX5_findsOrder 106 [some (.ref 33), some (.int (iN (mnR (g 0) (g 1) 6))), some (.int (iN (mgG (odF (g 0) (g 1) x (-1) g) (preF 228 (loF (g 1) (g 2) (g 3)) so)))), some (.int (iN x)), some (.int (iN (mgG (odF (g 0) (g 1) x (-1) g) (preF 228 (loF (g 1) (g 2) (g 3)) so)))), some (.int (iN k))] [] (mdW w (odF (g 0) (g 1) x (-1) g) (preF k (fun j => (odF (g 0) (g 1) x (-1) g) (7 + j)) (bsB g be q)) (preF 6 (fun j => g (7 + j)) hd) (preF 228 (loF (g 1) (g 2) (g 3)) so)) (fun r' w' => r' = none ∧ w' = (mdW w g (bsB g be (bsR g (preF 228 (loF (g 1) (g 2) (g 3)) so) (mnR (g 0) (g 1) 6).toNat).2) (preF 6 (fun j => g (7 + j)) hd) (preF 228 (loF (g 1) (g 2) (g 3)) so))) := by
                  intro n2
                  induction n2 with
                  | zero =>
                    intro k hl20
                    exfalso
                    omega
                  | succ n2 ih2 =>
                    intro k hl20
                    have q42i : 42 ≤ (mdW w (odF (g 0) (g 1) x (-1) g) (preF k (fun j => (odF (g 0) (g 1) x (-1) g) (7 + j)) (bsB g be q)) (preF 6 (fun j => g (7 + j)) hd) (preF 228 (loF (g 1) (g 2) (g 3)) so)).1 := h42
                    have q33i : 33 < (mdW w (odF (g 0) (g 1) x (-1) g) (preF k (fun j => (odF (g 0) (g 1) x (-1) g) (7 + j)) (bsB g be q)) (preF 6 (fun j => g (7 + j)) hd) (preF 228 (loF (g 1) (g 2) (g 3)) so)).1 := k33
                    have qOi : (mdW w (odF (g 0) (g 1) x (-1) g) (preF k (fun j => (odF (g 0) (g 1) x (-1) g) (7 + j)) (bsB g be q)) (preF 6 (fun j => g (7 + j)) hd) (preF 228 (loF (g 1) (g 2) (g 3)) so)).2.2 33 = mdO hl tk tl sp rv rs oa := (mdW_out (by decide) (by decide) (by decide) (by decide)).trans hO
                    have q34i : 34 < (mdW w (odF (g 0) (g 1) x (-1) g) (preF k (fun j => (odF (g 0) (g 1) x (-1) g) (7 + j)) (bsB g be q)) (preF 6 (fun j => g (7 + j)) hd) (preF 228 (loF (g 1) (g 2) (g 3)) so)).1 := k34
                    have qAi : (mdW w (odF (g 0) (g 1) x (-1) g) (preF k (fun j => (odF (g 0) (g 1) x (-1) g) (7 + j)) (bsB g be q)) (preF 6 (fun j => g (7 + j)) hd) (preF 228 (loF (g 1) (g 2) (g 3)) so)).2.2 34 = arO 61 (odF (g 0) (g 1) x (-1) g) := mdW_at34
                    have q39i : 39 < (mdW w (odF (g 0) (g 1) x (-1) g) (preF k (fun j => (odF (g 0) (g 1) x (-1) g) (7 + j)) (bsB g be q)) (preF 6 (fun j => g (7 + j)) hd) (preF 228 (loF (g 1) (g 2) (g 3)) so)).1 := k39
                    have qBi : (mdW w (odF (g 0) (g 1) x (-1) g) (preF k (fun j => (odF (g 0) (g 1) x (-1) g) (7 + j)) (bsB g be q)) (preF 6 (fun j => g (7 + j)) hd) (preF 228 (loF (g 1) (g 2) (g 3)) so)).2.2 39 = arO 6 (preF k (fun j => (odF (g 0) (g 1) x (-1) g) (7 + j)) (bsB g be q)) := mdW_at39
                    have q40i : 40 < (mdW w (odF (g 0) (g 1) x (-1) g) (preF k (fun j => (odF (g 0) (g 1) x (-1) g) (7 + j)) (bsB g be q)) (preF 6 (fun j => g (7 + j)) hd) (preF 228 (loF (g 1) (g 2) (g 3)) so)).1 := k40
                    have qHi : (mdW w (odF (g 0) (g 1) x (-1) g) (preF k (fun j => (odF (g 0) (g 1) x (-1) g) (7 + j)) (bsB g be q)) (preF 6 (fun j => g (7 + j)) hd) (preF 228 (loF (g 1) (g 2) (g 3)) so)).2.2 40 = arO 6 (preF 6 (fun j => g (7 + j)) hd) := mdW_at40
                    have qSi : (mdW w (odF (g 0) (g 1) x (-1) g) (preF k (fun j => (odF (g 0) (g 1) x (-1) g) (7 + j)) (bsB g be q)) (preF 6 (fun j => g (7 + j)) hd) (preF 228 (loF (g 1) (g 2) (g 3)) so)).2.2 38 = arO 228 (preF 228 (loF (g 1) (g 2) (g 3)) so) := mdW_at38
                    refine r_iload (pc2 := 108) dX5_findsOrder_106 rfl rfl ?_
                    refine r_bipush (pc2 := 110) dX5_findsOrder_108 rfl (by decide) ?_
                    refine r_icmp_ge (pc2 := 113) (tgt := 136) dX5_findsOrder_110 rfl (by decide) (by omega) (by omega) (fun h110 => ?_) (fun h110 => ?_)
                    · have h6 : k = 6 := by omega
                      subst h6
                      rw [bsB_new (by omega)]
                      refine r_iinc_3 (pc2 := 139) dX5_findsOrder_136 rfl rfl ?_
                      refine r_goto (tgt := 62) dX5_findsOrder_139 (by decide) ?_
                      exact ih (x + 1) (odF (g 0) (g 1) x (-1) g) _ _ _ _ (by omega) (outS_od _ _ _ _) hnx
                    · refine r_aload_n (pc2 := 114) dX5_findsOrder_113 rfl rfl ?_
                      refine r_getf (pc2 := 117) dX5_findsOrder_114 rfl fl_5_25 (by assumption) (by assumption) (by rfl) ?_
                      refine r_iload (pc2 := 119) dX5_findsOrder_117 rfl rfl ?_
                      refine r_aload_n (pc2 := 120) dX5_findsOrder_119 rfl rfl ?_
                      refine r_getf (pc2 := 123) dX5_findsOrder_120 rfl fl_5_7 (by assumption) (by assumption) (by rfl) ?_
                      refine r_bipush (pc2 := 125) dX5_findsOrder_123 rfl (by decide) ?_
                      refine r_iload (pc2 := 127) dX5_findsOrder_125 rfl rfl ?_
                      refine r_iadd (pc2 := 128) dX5_findsOrder_127 rfl ?_
                      refine r_iald (pc2 := 129) dX5_findsOrder_128 rfl (by decide) (by assumption) (by assumption) (by omega) (by omega) (by omega) ?_
                      refine r_iast (pc2 := 130) dX5_findsOrder_129 rfl (by assumption) (by assumption) (by omega) (by omega) (by omega) ?_
                      rw [mdW_39, show (7 + k).toNat = 7 + k.toNat by omega, preF_step hl20.1 (fun j => (odF (g 0) (g 1) x (-1) g) (7 + j))]
                      refine r_iinc_5 (pc2 := 133) dX5_findsOrder_130 rfl rfl ?_
                      refine r_goto (tgt := 106) dX5_findsOrder_133 (by decide) ?_
                      exact ih2 (k + 1) (by omega)
                refine r_iconst (pc2 := 104) dX5_findsOrder_103 rfl ?_
                refine r_ist_5 (pc2 := 106) dX5_findsOrder_104 rfl rfl ?_
                have := inner 7 0 (by omega)
                rw [preF_0] at this
                exact this
  have loop0 : ∀ (n : Nat) (k : Int) (m : Int), (0 ≤ k ∧ k ≤ 6 ∧ 7 ≤ k + n) → (m = mnR (g 0) (g 1) k.toNat) → rn MX5_findsOrder 8 [some (.ref 33), some (.int (iN m)), some (.int (iN k)), none, none, none] [] (mdW w g be (preF k (fun j => g (7 + j)) hd) (preF 228 (loF (g 1) (g 2) (g 3)) so)) (fun r' w' => r' = none ∧ w' = (mdW w g (bsB g be (bsR g (preF 228 (loF (g 1) (g 2) (g 3)) so) (mnR (g 0) (g 1) 6).toNat).2) (preF 6 (fun j => g (7 + j)) hd) (preF 228 (loF (g 1) (g 2) (g 3)) so))) := by
    intro n
    induction n with
    | zero =>
      intro k m hk0 hk1
      exfalso
      omega
    | succ n ih =>
      intro k m hk0 hk1
      have hmn := mnR_rg (p := g 1) hv 6 (by omega)
      have q42 : 42 ≤ (mdW w g be (preF k (fun j => g (7 + j)) hd) (preF 228 (loF (g 1) (g 2) (g 3)) so)).1 := h42
      have q33 : 33 < (mdW w g be (preF k (fun j => g (7 + j)) hd) (preF 228 (loF (g 1) (g 2) (g 3)) so)).1 := k33
      have qO : (mdW w g be (preF k (fun j => g (7 + j)) hd) (preF 228 (loF (g 1) (g 2) (g 3)) so)).2.2 33 = mdO hl tk tl sp rv rs oa := (mdW_out (by decide) (by decide) (by decide) (by decide)).trans hO
      have q34 : 34 < (mdW w g be (preF k (fun j => g (7 + j)) hd) (preF 228 (loF (g 1) (g 2) (g 3)) so)).1 := k34
      have qA : (mdW w g be (preF k (fun j => g (7 + j)) hd) (preF 228 (loF (g 1) (g 2) (g 3)) so)).2.2 34 = arO 61 g := mdW_at34
      have q39 : 39 < (mdW w g be (preF k (fun j => g (7 + j)) hd) (preF 228 (loF (g 1) (g 2) (g 3)) so)).1 := k39
      have qB : (mdW w g be (preF k (fun j => g (7 + j)) hd) (preF 228 (loF (g 1) (g 2) (g 3)) so)).2.2 39 = arO 6 be := mdW_at39
      have q40 : 40 < (mdW w g be (preF k (fun j => g (7 + j)) hd) (preF 228 (loF (g 1) (g 2) (g 3)) so)).1 := k40
      have qH : (mdW w g be (preF k (fun j => g (7 + j)) hd) (preF 228 (loF (g 1) (g 2) (g 3)) so)).2.2 40 = arO 6 (preF k (fun j => g (7 + j)) hd) := mdW_at40
      have qS : (mdW w g be (preF k (fun j => g (7 + j)) hd) (preF 228 (loF (g 1) (g 2) (g 3)) so)).2.2 38 = arO 228 (preF 228 (loF (g 1) (g 2) (g 3)) so) := mdW_at38
      refine r_iload_n (pc2 := 9) dX5_findsOrder_8 rfl rfl ?_
      refine r_bipush (pc2 := 11) dX5_findsOrder_9 rfl (by decide) ?_
      refine r_icmp_ge (pc2 := 14) (tgt := 58) dX5_findsOrder_11 rfl (by decide) (by omega) (by omega) (fun h11 => ?_) (fun h11 => ?_)
      · have h6 : k = 6 := by omega
        subst h6
        refine r_iconst (pc2 := 59) dX5_findsOrder_58 rfl ?_
        refine r_ist_2 (pc2 := 60) dX5_findsOrder_59 rfl rfl ?_
        refine r_iconst (pc2 := 61) dX5_findsOrder_60 rfl ?_
        refine r_ist_3 (pc2 := 62) dX5_findsOrder_61 rfl rfl ?_
        have := loop ((mnR (g 0) (g 1) 6).toNat + 1) 0 g (-1) (-1) none none (by omega) (fun _ _ => rfl) rfl
        rw [bsB_0] at this
        rw [hk1] at *
        exact this
      · refine r_aload_n (pc2 := 15) dX5_findsOrder_14 rfl rfl ?_
        refine r_getf (pc2 := 18) dX5_findsOrder_15 rfl fl_5_28 (by assumption) (by assumption) (by rfl) ?_
        refine r_iload_n (pc2 := 19) dX5_findsOrder_18 rfl rfl ?_
        refine r_aload_n (pc2 := 20) dX5_findsOrder_19 rfl rfl ?_
        refine r_getf (pc2 := 23) dX5_findsOrder_20 rfl fl_5_7 (by assumption) (by assumption) (by rfl) ?_
        refine r_bipush (pc2 := 25) dX5_findsOrder_23 rfl (by decide) ?_
        refine r_iload_n (pc2 := 26) dX5_findsOrder_25 rfl rfl ?_
        refine r_iadd (pc2 := 27) dX5_findsOrder_26 rfl ?_
        refine r_iald (pc2 := 28) dX5_findsOrder_27 rfl (by decide) (by assumption) (by assumption) (by omega) (by omega) (by omega) ?_
        refine r_iast (pc2 := 29) dX5_findsOrder_28 rfl (by assumption) (by assumption) (by omega) (by omega) (by omega) ?_
        rw [mdW_40, show (7 + k).toNat = 7 + k.toNat by omega, preF_step hk0.1 (fun j => g (7 + j))]
        have q42b : 42 ≤ (mdW w g be (preF (k + 1) (fun j => g (7 + j)) hd) (preF 228 (loF (g 1) (g 2) (g 3)) so)).1 := h42
        have q33b : 33 < (mdW w g be (preF (k + 1) (fun j => g (7 + j)) hd) (preF 228 (loF (g 1) (g 2) (g 3)) so)).1 := k33
        have qOb : (mdW w g be (preF (k + 1) (fun j => g (7 + j)) hd) (preF 228 (loF (g 1) (g 2) (g 3)) so)).2.2 33 = mdO hl tk tl sp rv rs oa := (mdW_out (by decide) (by decide) (by decide) (by decide)).trans hO
        have q34b : 34 < (mdW w g be (preF (k + 1) (fun j => g (7 + j)) hd) (preF 228 (loF (g 1) (g 2) (g 3)) so)).1 := k34
        have qAb : (mdW w g be (preF (k + 1) (fun j => g (7 + j)) hd) (preF 228 (loF (g 1) (g 2) (g 3)) so)).2.2 34 = arO 61 g := mdW_at34
        have q39b : 39 < (mdW w g be (preF (k + 1) (fun j => g (7 + j)) hd) (preF 228 (loF (g 1) (g 2) (g 3)) so)).1 := k39
        have qBb : (mdW w g be (preF (k + 1) (fun j => g (7 + j)) hd) (preF 228 (loF (g 1) (g 2) (g 3)) so)).2.2 39 = arO 6 be := mdW_at39
        have q40b : 40 < (mdW w g be (preF (k + 1) (fun j => g (7 + j)) hd) (preF 228 (loF (g 1) (g 2) (g 3)) so)).1 := k40
        have qHb : (mdW w g be (preF (k + 1) (fun j => g (7 + j)) hd) (preF 228 (loF (g 1) (g 2) (g 3)) so)).2.2 40 = arO 6 (preF (k + 1) (fun j => g (7 + j)) hd) := mdW_at40
        have qSb : (mdW w g be (preF (k + 1) (fun j => g (7 + j)) hd) (preF 228 (loF (g 1) (g 2) (g 3)) so)).2.2 38 = arO 228 (preF 228 (loF (g 1) (g 2) (g 3)) so) := mdW_at38
        refine r_iload_n (pc2 := 30) dX5_findsOrder_29 rfl rfl ?_
        refine r_iload_n (pc2 := 31) dX5_findsOrder_30 rfl rfl ?_
        refine r_aload_n (pc2 := 32) dX5_findsOrder_31 rfl rfl ?_
        refine r_getf (pc2 := 35) dX5_findsOrder_32 rfl fl_5_7 (by assumption) (by assumption) (by rfl) ?_
        refine r_iconst (pc2 := 36) dX5_findsOrder_35 rfl ?_
        refine r_ialk (k := 1) (pc2 := 37) dX5_findsOrder_36 rfl (by decide) (by assumption) (by assumption) (by omega) (by omega) (by omega) (by decide) ?_
        refine r_icmp_ge (pc2 := 40) (tgt := 49) dX5_findsOrder_37 rfl (by decide) (by omega) (by omega) (fun h37 => ?_) (fun h37 => ?_)
        · have hnx : m * 1 = mnR (g 0) (g 1) (k + 1).toNat := by
            rw [show (k + 1).toNat = k.toNat + 1 by omega, hk1]
            show _ = mnR (g 0) (g 1) k.toNat * (if ((k.toNat : Nat) : Int) < g 1 then g 0 else 1)
            rw [if_neg (by omega)]
          refine r_iconst (pc2 := 50) dX5_findsOrder_49 rfl ?_
          refine r_imul (pc2 := 51) dX5_findsOrder_50 rfl ?_
          refine r_ist_1 (pc2 := 52) dX5_findsOrder_51 rfl rfl ?_
          refine r_iinc_2 (pc2 := 55) dX5_findsOrder_52 rfl rfl ?_
          refine r_goto (tgt := 8) dX5_findsOrder_55 (by decide) ?_
          exact ih (k + 1) _ (by omega) hnx
        · have hnx : m * g 0 = mnR (g 0) (g 1) (k + 1).toNat := by
            rw [show (k + 1).toNat = k.toNat + 1 by omega, hk1]
            show _ = mnR (g 0) (g 1) k.toNat * (if ((k.toNat : Nat) : Int) < g 1 then g 0 else 1)
            rw [if_pos (by omega)]
          refine r_aload_n (pc2 := 41) dX5_findsOrder_40 rfl rfl ?_
          refine r_getf (pc2 := 44) dX5_findsOrder_41 rfl fl_5_7 (by assumption) (by assumption) (by rfl) ?_
          refine r_iconst (pc2 := 45) dX5_findsOrder_44 rfl ?_
          refine r_ialk (k := 0) (pc2 := 46) dX5_findsOrder_45 rfl (by decide) (by assumption) (by assumption) (by omega) (by omega) (by omega) (by decide) ?_
          refine r_goto (tgt := 50) dX5_findsOrder_46 (by decide) ?_
          refine r_imul (pc2 := 51) dX5_findsOrder_50 rfl ?_
          refine r_ist_1 (pc2 := 52) dX5_findsOrder_51 rfl rfl ?_
          refine r_iinc_2 (pc2 := 55) dX5_findsOrder_52 rfl rfl ?_
          refine r_goto (tgt := 8) dX5_findsOrder_55 (by decide) ?_
          exact ih (k + 1) _ (by omega) hnx
  refine r_aload_n (pc2 := 1) dX5_findsOrder_0 rfl rfl ?_
  refine r_callv_0 (pc2 := 4) dX5_findsOrder_1 rfl rs_5_71 rfl (by decide) rfl (Nat.le_of_ble_eq_true rfl) (Nat.le_of_ble_eq_true rfl) (by assumption) (by assumption) (m_laysSlots _ h42 hl tk tl sp rv rs oa hO g hA hGR so hS) (fun r_ w_ h_ => ?_)
  rw [h_.1, h_.2]
  clear h_ w_ r_
  refine ⟨rfl, ?_⟩
  have hw0 : wst w 38 (arO 228 (preF 228 (loF (g 1) (g 2) (g 3)) so)) = mdW w g be (preF 0 (fun j => g (7 + j)) hd) (preF 228 (loF (g 1) (g 2) (g 3)) so) := by
    rw [preF_0]
    exact (congrArg (fun z => wst z 38 (arO 228 (preF 228 (loF (g 1) (g 2) (g 3)) so))) (mdW_id hA hB hH hS).symm).trans (mdW_38 _ _ _ _ _ _)
  rw [hw0]
  refine r_iconst (pc2 := 5) dX5_findsOrder_4 rfl ?_
  refine r_ist_1 (pc2 := 6) dX5_findsOrder_5 rfl rfl ?_
  refine r_iconst (pc2 := 7) dX5_findsOrder_6 rfl ?_
  refine r_ist_2 (pc2 := 8) dX5_findsOrder_7 rfl rfl ?_
  exact loop0 7 0 1 (by omega) rfl
