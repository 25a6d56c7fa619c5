/-! the reference: orders of slices by their numbers -/
def shN (d : Int) : Int := ((2 ^ d.toNat : Nat) : Int)
theorem sh_ok {d : Int} (h : 0 ≤ d ∧ d ≤ 4) : iN 1 <<< (iN d &&& 31) = iN (shN d) := by
  rcases (show d = 0 ∨ d = 1 ∨ d = 2 ∨ d = 3 ∨ d = 4 by omega) with rfl | rfl | rfl | rfl | rfl <;> decide +kernel
def orN (a b : Int) : Int := ((a.toNat ||| b.toNat : Nat) : Int)
theorem or_tab : ∀ a : Nat, a < 16 → ∀ d : Nat, d < 4 → iN (a : Int) ||| iN (shN (d : Int)) = iN (orN (a : Int) (shN (d : Int))) := by decide +kernel
theorem or_ok {a d : Int} (ha : 0 ≤ a ∧ a < 16) (hd : 0 ≤ d ∧ d ≤ 3) : iN a ||| iN (shN d) = iN (orN a (shN d)) := by
  have h := or_tab a.toNat (by omega) d.toNat (by omega)
  rw [tn ha.1, tn hd.1] at h
  exact h
theorem or_bit : ∀ a : Nat, a < 16 → ∀ d : Nat, d < 4 → (a ||| 2 ^ d) < 16 ∧ ∀ x : Nat, x < 4 → ((a ||| 2 ^ d).testBit x = true ↔ (a.testBit x = true ∨ x = d)) := by decide +kernel
theorem or_full2 : ∀ a : Nat, a < 16 → ((∀ x : Nat, x < 4 → 2 ≤ x → a.testBit x = false) → (a = 3 ↔ ∀ x : Nat, x < 2 → a.testBit x = true)) := by decide +kernel
theorem or_full3 : ∀ a : Nat, a < 16 → ((∀ x : Nat, x < 4 → 3 ≤ x → a.testBit x = false) → (a = 7 ↔ ∀ x : Nat, x < 3 → a.testBit x = true)) := by decide +kernel
theorem or_full4 : ∀ a : Nat, a < 16 → ((∀ x : Nat, x < 4 → 4 ≤ x → a.testBit x = false) → (a = 15 ↔ ∀ x : Nat, x < 4 → a.testBit x = true)) := by decide +kernel
theorem or_full (v : Nat) (h5 : v < 5) (h2 : 2 ≤ v) (a : Nat) (ha : a < 16) (h : ∀ x : Nat, x < 4 → v ≤ x → a.testBit x = false) : a = 2 ^ v - 1 ↔ ∀ x : Nat, x < v → a.testBit x = true := by
  rcases (show v = 2 ∨ v = 3 ∨ v = 4 by omega) with rfl | rfl | rfl
  · exact or_full2 a ha h
  · exact or_full3 a ha h
  · exact or_full4 a ha h
/-- what is left of an order's number, behind its last digits -/
def lfR (v n : Int) : Nat → Int
  | 0 => n
  | i + 1 => lfR v n i / v
/-- the view of a slice in the order of a number -/
def dgO (v p n : Int) (j : Nat) : Int := lfR v n (p.toNat - 1 - j) % v
def odF (v p n k : Int) (g : Nat → Int) : Nat → Int := fun j => if 7 + k < (j : Int) ∧ (j : Int) < 7 + p then dgO v p n (j - 7) else g j
abbrev cvO (v p n : Int) : Prop := p < v ∨ ∀ x : Nat, x < v.toNat → ∃ j : Nat, j < p.toNat ∧ dgO v p n j = (x : Int)
theorem lfR_nn {v n : Int} (hv : 2 ≤ v) (hn : 0 ≤ n) (i : Nat) : 0 ≤ lfR v n i ∧ lfR v n i ≤ n := by
  induction i with
  | zero => exact ⟨hn, Int.le_refl _⟩
  | succ i ih =>
    show 0 ≤ lfR v n i / v ∧ lfR v n i / v ≤ n
    have h1 := Int.ediv_nonneg ih.1 (show 0 ≤ v by omega)
    have h2 : lfR v n i / v ≤ lfR v n i := Int.ediv_le_self v ih.1
    omega
theorem dgO_rg {v p n : Int} (hv : 2 ≤ v) (j : Nat) : 0 ≤ dgO v p n j ∧ dgO v p n j ≤ v - 1 := by
  have h1 := Int.emod_nonneg (lfR v n (p.toNat - 1 - j)) (show v ≠ 0 by omega)
  have h2 := Int.emod_lt_of_pos (lfR v n (p.toNat - 1 - j)) (show 0 < v by omega)
  unfold dgO
  omega
theorem odF_0 (v p n : Int) (g : Nat → Int) : odF v p n (p - 1) g = g := by
  funext j
  exact if_neg (by omega)
theorem odF_step {v p n k : Int} {g : Nat → Int} (hk : 0 ≤ k ∧ k ≤ p - 1) : updZ (odF v p n k g) (7 + k).toNat (dgO v p n k.toNat) = odF v p n (k + (-1)) g := by
  funext j
  unfold updZ odF
  by_cases h : j = (7 + k).toNat
  · subst h
    rw [if_pos rfl, if_pos (by omega)]
    congr 1
    omega
  · rw [if_neg h]
    by_cases h2 : 7 + k < (j : Int) ∧ (j : Int) < 7 + p
    · rw [if_pos h2, if_pos (by omega)]
    · rw [if_neg h2, if_neg (by omega)]
theorem odF_low {v p n k : Int} {g : Nat → Int} {j : Nat} (h : j < 7) (hk : -1 ≤ k) : odF v p n k g j = g j := if_neg (by omega)
theorem odF_at {v p n k : Int} {g : Nat → Int} (hk : 0 ≤ k ∧ k ≤ p - 1) : odF v p n (k + (-1)) g (7 + k).toNat = dgO v p n k.toNat := by
  unfold odF
  rw [if_pos (by omega)]
  congr 1
  omega
/-- the set of views that are in an order, from a slice on -/
def seO (v p n k : Int) (S : Nat) : Prop := S < 16 ∧ ∀ x : Nat, x < 4 → (S.testBit x = true ↔ ∃ j : Nat, k < (j : Int) ∧ (j : Int) < p ∧ dgO v p n j = (x : Int))
theorem seO_0 (v p n : Int) : seO v p n (p - 1) 0 := by
  refine ⟨by decide, fun x _ => ?_⟩
  rw [Nat.zero_testBit]
  constructor
  · intro h
    cases h
  · rintro ⟨j, h1, h2, -⟩
    omega
theorem seO_step {v p n k : Int} {S : Nat} (h : seO v p n k S) (hv : 2 ≤ v ∧ v ≤ 4) (hk : 0 ≤ k ∧ k ≤ p - 1) : seO v p n (k + (-1)) (S ||| 2 ^ (dgO v p n k.toNat).toNat) := by
  have hd := dgO_rg (p := p) (n := n) hv.1 k.toNat
  have hb := or_bit S h.1 (dgO v p n k.toNat).toNat (by omega)
  refine ⟨hb.1, fun x hx => ?_⟩
  rw [hb.2 x hx, h.2 x hx]
  constructor
  · rintro (⟨j, h1, h2, h3⟩ | h1)
    · exact ⟨j, by omega, h2, h3⟩
    · exact ⟨k.toNat, by omega, by omega, by omega⟩
  · rintro ⟨j, h1, h2, h3⟩
    by_cases hj : j = k.toNat
    · subst hj
      exact Or.inr (by omega)
    · exact Or.inl ⟨j, by omega, h2, h3⟩
theorem seO_full {v p n : Int} {S : Nat} (h : seO v p n (-1) S) (hv : 2 ≤ v ∧ v ≤ 4) (hp : 0 ≤ p) : (S : Int) = shN v - 1 ↔ ∀ x : Nat, x < v.toNat → ∃ j : Nat, j < p.toNat ∧ dgO v p n j = (x : Int) := by
  have h1 := or_full v.toNat (by omega) (by omega) S h.1 (fun x hx hvx => by
    cases hb : S.testBit x with
    | false => rfl
    | true =>
      obtain ⟨j, -, h2, h3⟩ := (h.2 x hx).mp hb
      have := dgO_rg (p := p) (n := n) hv.1 j
      omega)
  have h2 : 1 ≤ 2 ^ v.toNat := Nat.one_le_two_pow
  have h3 : (S : Int) = shN v - 1 ↔ S = 2 ^ v.toNat - 1 := by
    unfold shN
    omega
  rw [h3, h1]
  constructor
  · intro q x hx
    obtain ⟨j, h4, h5, h6⟩ := (h.2 x (by omega)).mp (q x hx)
    exact ⟨j, by omega, h6⟩
  · intro q x hx
    obtain ⟨j, h4, h5⟩ := q x hx
    exact (h.2 x (by omega)).mpr ⟨j, by omega, by omega, h5⟩

set_option maxHeartbeats 4000000 in
theorem m_laysOrder (w : av_W) (h42 : 42 ≤ w.1) (hl tk tl sp rv rs oa : Int) (hO : w.2.2 33 = mdO hl tk tl sp rv rs oa) (g : Nat → Int) (hA : w.2.2 34 = arO 61 g) (hGR : GR g) (x : Int) (hx : 0 ≤ x ∧ x ≤ 4096) : fn MX5_laysOrder [.ref 33, .int (iN x)] w (some (.int (iN (bz (cvO (g 0) (g 1) x))))) (wst w 34 (arO 61 (odF (g 0) (g 1) x (-1) g))) := by
  have k33 : 33 < w.1 := by omega
  have k34 : 34 < w.1 := by omega
  obtain ⟨hv, hp, hsh, hln⟩ := id hGR
  show rn MX5_laysOrder 0 [some (.ref 33), some (.int (iN x)), none, none, none] [] w (fun r' w' => r' = (some (.int (iN (bz (cvO (g 0) (g 1) x))))) ∧ w' = (wst w 34 (arO 61 (odF (g 0) (g 1) x (-1) g))))
  have loop : ∀ (n : Nat) (k m : Int) (S : Nat), (-1 ≤ k ∧ k ≤ g 1 - 1 ∧ k + 2 ≤ n) → (m = lfR (g 0) x (g 1 - 1 - k).toNat) → (seO (g 0) (g 1) x k S) → rn MX5_laysOrder 14 [some (.ref 33), some (.int (iN x)), some (.int (iN m)), some (.int (iN S)), some (.int (iN k))] [] (wst w 34 (arO 61 (odF (g 0) (g 1) x k g))) (fun r' w' => r' = some (.int (iN (bz (cvO (g 0) (g 1) x)))) ∧ w' = wst w 34 (arO 61 (odF (g 0) (g 1) x (-1) g))) := by
    intro n
    induction n with
    | zero =>
      intro k m S hk0 hk1 hk2
      exfalso
      omega
    | succ n ih =>
      intro k m S hk0 hk1 hk2
      have q33 : 33 < ((wst w 34 (arO 61 (odF (g 0) (g 1) x k g)))).1 := k33
      have qO : ((wst w 34 (arO 61 (odF (g 0) (g 1) x k g)))).2.2 33 = mdO hl tk tl sp rv rs oa := by rw [wst_ne (by decide)]; exact hO
      have q34 : 34 < ((wst w 34 (arO 61 (odF (g 0) (g 1) x k g)))).1 := k34
      have qA : ((wst w 34 (arO 61 (odF (g 0) (g 1) x k g)))).2.2 34 = arO 61 (odF (g 0) (g 1) x k g) := wst_self
      have g0 : odF (g 0) (g 1) x k g 0 = g 0 := odF_low (by decide) (by omega)
      have g1 : odF (g 0) (g 1) x k g 1 = g 1 := odF_low (by decide) (by omega)
      have hmr := lfR_nn hv.1 hx.1 (g 1 - 1 - k).toNat
      rw [← hk1] at hmr
      have hS1 := hk2.1
      refine r_iload (pc2 := 16) dX5_laysOrder_14 rfl rfl ?_
      refine r_if_lt (pc2 := 19) (tgt := 67) dX5_laysOrder_16 rfl (by decide) (by omega) (fun h16 => ?_) (fun h16 => ?_)
      · have hk9 : k = -1 := by omega
        refine r_aload_n (pc2 := 68) dX5_laysOrder_67 rfl rfl ?_
        refine r_getf (pc2 := 71) dX5_laysOrder_68 rfl fl_5_7 (by assumption) (by assumption) (by rfl) ?_
        refine r_iconst (pc2 := 72) dX5_laysOrder_71 rfl ?_
        refine r_ialk (k := 1) (pc2 := 73) dX5_laysOrder_72 rfl (by decide) (by assumption) (by assumption) (by omega) (by omega) (by omega) (by decide) ?_
        rw [g1]
        refine r_aload_n (pc2 := 74) dX5_laysOrder_73 rfl rfl ?_
        refine r_getf (pc2 := 77) dX5_laysOrder_74 rfl fl_5_7 (by assumption) (by assumption) (by rfl) ?_
        refine r_iconst (pc2 := 78) dX5_laysOrder_77 rfl ?_
        refine r_ialk (k := 0) (pc2 := 79) dX5_laysOrder_78 rfl (by decide) (by assumption) (by assumption) (by omega) (by omega) (by omega) (by decide) ?_
        rw [g0]
        refine r_icmp_lt (pc2 := 82) (tgt := 96) dX5_laysOrder_79 rfl (by decide) (by omega) (by omega) (fun h79 => ?_) (fun h79 => ?_)
        · refine r_iconst (pc2 := 97) dX5_laysOrder_96 rfl ?_
          refine r_goto (tgt := 101) dX5_laysOrder_97 (by decide) ?_
          refine r_retb dX5_laysOrder_101 rfl (by first | exact Or.inl rfl | exact Or.inr rfl | exact bz_01) ?_
          rw [hk9]
          exact ⟨by first | rw [bz_t (Or.inl (by omega))] | rw [bz_t (Or.inr (hfu.mp (by omega)))] | rw [bz_f (fun q => by rcases q with q | q; omega; exact h93 (hfu.mpr q))], rfl⟩
        · refine r_iload_n (pc2 := 83) dX5_laysOrder_82 rfl rfl ?_
          refine r_iconst (pc2 := 84) dX5_laysOrder_83 rfl ?_
          refine r_aload_n (pc2 := 85) dX5_laysOrder_84 rfl rfl ?_
          refine r_getf (pc2 := 88) dX5_laysOrder_85 rfl fl_5_7 (by assumption) (by assumption) (by rfl) ?_
          refine r_iconst (pc2 := 89) dX5_laysOrder_88 rfl ?_
          refine r_ialk (k := 0) (pc2 := 90) dX5_laysOrder_89 rfl (by decide) (by assumption) (by assumption) (by omega) (by omega) (by omega) (by decide) ?_
          rw [g0]
          refine r_ishl (z := iN (shN (g 0))) (pc2 := 91) dX5_laysOrder_90 rfl (sh_ok (by omega)) ?_
          have hsr : shN (g 0) ≤ 16 ∧ 4 ≤ shN (g 0) := by
            rcases (show g 0 = 2 ∨ g 0 = 3 ∨ g 0 = 4 by omega) with h | h | h <;> rw [h] <;> decide
          have hfu := seO_full (hk9 ▸ hk2) hv (by omega)
          refine r_iconst (pc2 := 92) dX5_laysOrder_91 rfl ?_
          refine r_isub (pc2 := 93) dX5_laysOrder_92 rfl ?_
          refine r_icmp_ne (pc2 := 96) (tgt := 100) dX5_laysOrder_93 rfl (by decide) (by omega) (by omega) (fun h93 => ?_) (fun h93 => ?_)
          · refine r_iconst (pc2 := 101) dX5_laysOrder_100 rfl ?_
            refine r_retb dX5_laysOrder_101 rfl (by first | exact Or.inl rfl | exact Or.inr rfl | exact bz_01) ?_
            rw [hk9]
            exact ⟨by first | rw [bz_t (Or.inl (by omega))] | rw [bz_t (Or.inr (hfu.mp (by omega)))] | rw [bz_f (fun q => by rcases q with q | q; omega; exact h93 (hfu.mpr q))], rfl⟩
          · refine r_iconst (pc2 := 97) dX5_laysOrder_96 rfl ?_
            refine r_goto (tgt := 101) dX5_laysOrder_97 (by decide) ?_
            refine r_retb dX5_laysOrder_101 rfl (by first | exact Or.inl rfl | exact Or.inr rfl | exact bz_01) ?_
            rw [hk9]
            exact ⟨by first | rw [bz_t (Or.inl (by omega))] | rw [bz_t (Or.inr (hfu.mp (by omega)))] | rw [bz_f (fun q => by rcases q with q | q; omega; exact h93 (hfu.mpr q))], rfl⟩
      · have hdg : m.tmod (g 0) = dgO (g 0) (g 1) x k.toNat := by
          rw [Int.tmod_eq_emod_of_nonneg (by omega), hk1]
          unfold dgO
          congr 2
          omega
        have hdr := dgO_rg (p := g 1) (n := x) hv.1 k.toNat
        have hnx : m.tdiv (g 0) = lfR (g 0) x (g 1 - 1 - (k + (-1))).toNat := by
          rw [Int.tdiv_eq_ediv_of_nonneg (by omega), hk1, show (g 1 - 1 - (k + (-1))).toNat = (g 1 - 1 - k).toNat + 1 by omega]
          rfl
        have hS2 := seO_step hk2 hv (by omega : 0 ≤ k ∧ k ≤ g 1 - 1)
        refine r_aload_n (pc2 := 20) dX5_laysOrder_19 rfl rfl ?_
        refine r_getf (pc2 := 23) dX5_laysOrder_20 rfl fl_5_7 (by assumption) (by assumption) (by rfl) ?_
        refine r_bipush (pc2 := 25) dX5_laysOrder_23 rfl (by decide) ?_
        refine r_iload (pc2 := 27) dX5_laysOrder_25 rfl rfl ?_
        refine r_iadd (pc2 := 28) dX5_laysOrder_27 rfl ?_
        refine r_iload_n (pc2 := 29) dX5_laysOrder_28 rfl rfl ?_
        refine r_aload_n (pc2 := 30) dX5_laysOrder_29 rfl rfl ?_
        refine r_getf (pc2 := 33) dX5_laysOrder_30 rfl fl_5_7 (by assumption) (by assumption) (by rfl) ?_
        refine r_iconst (pc2 := 34) dX5_laysOrder_33 rfl ?_
        refine r_ialk (k := 0) (pc2 := 35) dX5_laysOrder_34 rfl (by decide) (by assumption) (by assumption) (by omega) (by omega) (by omega) (by decide) ?_
        rw [g0]
        refine r_irem (pc2 := 36) dX5_laysOrder_35 rfl (by omega) (by omega) (by omega) (by omega) ?_
        refine r_iast (pc2 := 37) dX5_laysOrder_36 rfl (by assumption) (by assumption) (by omega) (by omega) (by omega) ?_
        rw [hdg, wst_wst, odF_step (by omega)]
        have q33b : 33 < ((wst w 34 (arO 61 (odF (g 0) (g 1) x (k + (-1)) g)))).1 := k33
        have qOb : ((wst w 34 (arO 61 (odF (g 0) (g 1) x (k + (-1)) g)))).2.2 33 = mdO hl tk tl sp rv rs oa := by rw [wst_ne (by decide)]; exact hO
        have q34b : 34 < ((wst w 34 (arO 61 (odF (g 0) (g 1) x (k + (-1)) g)))).1 := k34
        have qAb : ((wst w 34 (arO 61 (odF (g 0) (g 1) x (k + (-1)) g)))).2.2 34 = arO 61 (odF (g 0) (g 1) x (k + (-1)) g) := wst_self
        have g0b : odF (g 0) (g 1) x (k + (-1)) g 0 = g 0 := odF_low (by decide) (by omega)
        refine r_iload_n (pc2 := 38) dX5_laysOrder_37 rfl rfl ?_
        refine r_aload_n (pc2 := 39) dX5_laysOrder_38 rfl rfl ?_
        refine r_getf (pc2 := 42) dX5_laysOrder_39 rfl fl_5_7 (by assumption) (by assumption) (by rfl) ?_
        refine r_iconst (pc2 := 43) dX5_laysOrder_42 rfl ?_
        refine r_ialk (k := 0) (pc2 := 44) dX5_laysOrder_43 rfl (by decide) (by assumption) (by assumption) (by omega) (by omega) (by omega) (by decide) ?_
        rw [g0b]
        refine r_idiv (pc2 := 45) dX5_laysOrder_44 rfl (by omega) (by omega) (by omega) (by omega) ?_
        refine r_ist_2 (pc2 := 46) dX5_laysOrder_45 rfl rfl ?_
        refine r_iload_n (pc2 := 47) dX5_laysOrder_46 rfl rfl ?_
        refine r_iconst (pc2 := 48) dX5_laysOrder_47 rfl ?_
        refine r_aload_n (pc2 := 49) dX5_laysOrder_48 rfl rfl ?_
        refine r_getf (pc2 := 52) dX5_laysOrder_49 rfl fl_5_7 (by assumption) (by assumption) (by rfl) ?_
        refine r_bipush (pc2 := 54) dX5_laysOrder_52 rfl (by decide) ?_
        refine r_iload (pc2 := 56) dX5_laysOrder_54 rfl rfl ?_
        refine r_iadd (pc2 := 57) dX5_laysOrder_56 rfl ?_
        refine r_iald (pc2 := 58) dX5_laysOrder_57 rfl (by decide) (by assumption) (by assumption) (by omega) (by omega) (by omega) ?_
        rw [odF_at (by omega)]
        refine r_ishl (z := iN (shN (dgO (g 0) (g 1) x k.toNat))) (pc2 := 59) dX5_laysOrder_58 rfl (sh_ok (by omega)) ?_
        refine r_ior (z := iN (orN S (shN (dgO (g 0) (g 1) x k.toNat)))) (pc2 := 60) dX5_laysOrder_59 rfl (or_ok (by omega) (by omega)) ?_
        refine r_ist_3 (pc2 := 61) dX5_laysOrder_60 rfl rfl ?_
        refine r_iinc_4 (pc2 := 64) dX5_laysOrder_61 rfl rfl ?_
        refine r_goto (tgt := 14) dX5_laysOrder_64 (by decide) ?_
        have := ih (k + (-1)) _ _ (by omega) hnx hS2
        exact this
  refine r_iload_n (pc2 := 1) dX5_laysOrder_0 rfl rfl ?_
  refine r_ist_2 (pc2 := 2) dX5_laysOrder_1 rfl rfl ?_
  refine r_iconst (pc2 := 3) dX5_laysOrder_2 rfl ?_
  refine r_ist_3 (pc2 := 4) dX5_laysOrder_3 rfl rfl ?_
  refine r_aload_n (pc2 := 5) dX5_laysOrder_4 rfl rfl ?_
  refine r_getf (pc2 := 8) dX5_laysOrder_5 rfl fl_5_7 (by assumption) (by assumption) (by rfl) ?_
  refine r_iconst (pc2 := 9) dX5_laysOrder_8 rfl ?_
  refine r_ialk (k := 1) (pc2 := 10) dX5_laysOrder_9 rfl (by decide) (by assumption) (by assumption) (by omega) (by omega) (by omega) (by decide) ?_
  refine r_iconst (pc2 := 11) dX5_laysOrder_10 rfl ?_
  refine r_isub (pc2 := 12) dX5_laysOrder_11 rfl ?_
  refine r_ist_4 (pc2 := 14) dX5_laysOrder_12 rfl rfl ?_
  have := loop (g 1 + 1).toNat (g 1 - 1) x 0 (by omega) (by rw [show (g 1 - 1 - (g 1 - 1)).toNat = 0 by omega]; rfl) (seO_0 _ _ _)
  rw [odF_0, wst_id hA] at this
  exact this
