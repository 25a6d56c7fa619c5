/-! ===== the logic of the machine: runs, and a row for each instruction, over whole numbers ===== -/
def iN (z : Int) : Int32 := Int32.ofInt z
def lZ (z : Int) : Int64 := Int64.ofInt z
def bz (c : Prop) [Decidable c] : Int := if c then 1 else 0
theorem iN_toInt {z : Int} (h : -2147483648 ≤ z ∧ z < 2147483648) : (iN z).toInt = z := Int32.toInt_ofInt_of_le (by omega) (by omega)
theorem lZ_toInt {z : Int} (h : -9223372036854775808 ≤ z ∧ z < 9223372036854775808) : (lZ z).toInt = z := Int64.toInt_ofInt_of_le (by omega) (by omega)
theorem iN_of (x : Int32) : x = iN x.toInt := (Int32.ofInt_toInt x).symm
theorem iN_rg (x : Int32) : -2147483648 ≤ x.toInt ∧ x.toInt < 2147483648 := ⟨Int32.le_toInt x, Int32.toInt_lt x⟩
theorem iN_add (x y : Int) : iN x + iN y = iN (x + y) := (Int32.ofInt_add x y).symm
theorem iN_sub (x y : Int) : iN x - iN y = iN (x - y) := (Int32.ofInt_sub x y).symm
theorem iN_mul (x y : Int) : iN x * iN y = iN (x * y) := (Int32.ofInt_mul x y).symm
theorem iN_neg (x : Int) : -iN x = iN (-x) := (Int32.ofInt_neg x).symm
theorem lZ_sub (x y : Int) : lZ x - lZ y = lZ (x - y) := (Int64.ofInt_sub x y).symm
theorem lZ_mul (x y : Int) : lZ x * lZ y = lZ (x * y) := (Int64.ofInt_mul x y).symm
theorem iN_inj {x y : Int} (hx : -2147483648 ≤ x ∧ x < 2147483648) (hy : -2147483648 ≤ y ∧ y < 2147483648) : iN x = iN y ↔ x = y := by
  constructor
  · intro h
    rw [← iN_toInt hx, ← iN_toInt hy, h]
  · intro h
    rw [h]
theorem iN_lt {x y : Int} (hx : -2147483648 ≤ x ∧ x < 2147483648) (hy : -2147483648 ≤ y ∧ y < 2147483648) : iN x < iN y ↔ x < y := by
  rw [Int32.lt_iff_toInt_lt, iN_toInt hx, iN_toInt hy]
theorem iN_le {x y : Int} (hx : -2147483648 ≤ x ∧ x < 2147483648) (hy : -2147483648 ≤ y ∧ y < 2147483648) : iN x ≤ iN y ↔ x ≤ y := by
  rw [Int32.le_iff_toInt_le, iN_toInt hx, iN_toInt hy]
theorem iN_0 : (0 : Int32) = iN 0 := rfl
theorem iN_div {x y : Int} (hx : -2147483648 ≤ x ∧ x < 2147483648) (hy : -2147483648 ≤ y ∧ y < 2147483648) (h : ¬ (x = -2147483648 ∧ y = -1)) : iN x / iN y = iN (x.tdiv y) := by
  apply Int32.toInt_inj.mp
  rw [Int32.toInt_div, iN_toInt hx, iN_toInt hy]
  exact (Int32.toInt_ofInt).symm
theorem iN_rem {x y : Int} (hx : -2147483648 ≤ x ∧ x < 2147483648) (hy : -2147483648 ≤ y ∧ y < 2147483648) (h : ¬ (x = -2147483648 ∧ y = -1)) : iN x - iN x / iN y * iN y = iN (x.tmod y) := by
  rw [iN_div hx hy h, iN_mul, iN_sub, Int.tmod_def, Int.mul_comm]
theorem iN_clamp {z : Int} (h : -2147483648 ≤ z ∧ z < 2147483648) : (iN z).toNatClampNeg = z.toNat := by
  rw [← Int32.toNat_toInt, iN_toInt h]
theorem iN_i2l {x : Int} (h : -2147483648 ≤ x ∧ x < 2147483648) : (iN x).toInt64 = lZ x := by
  apply Int64.toInt_inj.mp
  rw [Int32.toInt_toInt64, iN_toInt h, lZ_toInt (by omega)]
def cz (x y : Int) : Int := if y < x then 1 else if x = y then 0 else -1
theorem lZ_cmp {x y : Int} (hx : -9223372036854775808 ≤ x ∧ x < 9223372036854775808) (hy : -9223372036854775808 ≤ y ∧ y < 9223372036854775808) : lg_cmp (lZ x) (lZ y) = iN (cz x y) := by
  have h1 : lZ x > lZ y ↔ y < x := by
    show lZ y < lZ x ↔ _
    rw [Int64.lt_iff_toInt_lt, lZ_toInt hx, lZ_toInt hy]
  have h2 : lZ x = lZ y ↔ x = y := by
    rw [← Int64.toInt_inj, lZ_toInt hx, lZ_toInt hy]
  unfold lg_cmp cz
  by_cases a : y < x
  · rw [if_pos (h1.mpr a), if_pos a]; rfl
  · rw [if_neg (fun q => a (h1.mp q)), if_neg a]
    by_cases b : x = y
    · rw [if_pos (h2.mpr b), if_pos b]; rfl
    · rw [if_neg (fun q => b (h2.mp q)), if_neg b]; rfl
theorem bip : ∀ n : Int, -128 ≤ n → n ≤ 127 → (Int8.ofInt n).toInt32 = iN n := by
  intro n h1 h2
  apply Int32.toInt_inj.mp
  rw [iN_toInt (by omega), Int8.toInt_toInt32, Int8.toInt_ofInt_of_le (by omega) (by omega)]
theorem sip : ∀ n : Int, -32768 ≤ n → n ≤ 32767 → (Int16.ofInt n).toInt32 = iN n := by
  intro n h1 h2
  apply Int32.toInt_inj.mp
  rw [iN_toInt (by omega), Int16.toInt_toInt32, Int16.toInt_ofInt_of_le (by omega) (by omega)]
/-- a row of numbers, as an array holds it -/
def iF (c : Nat → Int) : Nat → Int32 := fun j => iN (c j)
def updZ (c : Nat → Int) (k : Nat) (x : Int) : Nat → Int := fun j => if j = k then x else c j
theorem upd_iF (c : Nat → Int) (k : Nat) (x : Int) : upd (iF c) k (iN x) = iF (updZ c k x) := by
  funext j
  unfold upd iF updZ
  by_cases h : j = k
  · rw [if_pos h, if_pos h]
  · rw [if_neg h, if_neg h]
def arO (n : Nat) (c : Nat → Int) : av_E := .inl (0, n, .inl (iF c))
/-- a cell of the world is set -/
def wst (w : av_W) (a : Nat) (e : av_E) : av_W := (w.1, w.2.1, av_up w.2.2 a e)
theorem wst_n (w : av_W) (a : Nat) (e : av_E) : (wst w a e).1 = w.1 := rfl
theorem wst_eq {w : av_W} {a b : Nat} {e : av_E} (h : b = a) : (wst w a e).2.2 b = e := if_pos h
theorem wst_self {w : av_W} {a : Nat} {e : av_E} : (wst w a e).2.2 a = e := if_pos rfl
theorem wst_ne {w : av_W} {a b : Nat} {e : av_E} (h : b ≠ a) : (wst w a e).2.2 b = w.2.2 b := if_neg h
theorem wst_wst (w : av_W) (a : Nat) (e e2 : av_E) : wst (wst w a e) a e2 = wst w a e2 := by
  unfold wst
  congr 2
  funext j
  unfold av_up
  by_cases h : j = a
  · simp [h]
  · simp [h]
theorem wst_comm (w : av_W) {a b : Nat} (e e2 : av_E) (h : a ≠ b) : wst (wst w a e) b e2 = wst (wst w b e2) a e := by
  unfold wst
  congr 2
  funext j
  unfold av_up
  by_cases h1 : j = a
  · subst h1
    simp [h]
  · by_cases h2 : j = b
    · subst h2
      simp [h1]
    · simp [h1, h2]
theorem wst_id {w : av_W} {a : Nat} {e : av_E} (h : w.2.2 a = e) : wst w a e = w := by
  unfold wst
  have : av_up w.2.2 a e = w.2.2 := by
    funext j
    unfold av_up
    by_cases h1 : j = a
    · subst h1
      rw [if_pos rfl, h]
    · rw [if_neg h1]
  rw [this]
-- runs
def rn (M : av_M) (pc : Nat) (ls : av_L) (st : List Value) (w : av_W) (P : Option Value → av_W → Prop) : Prop := ∃ (f : Nat) (r : Option Value) (w2 : av_W), arun f M pc ls st w = some (r, w2) ∧ P r w2
def cl (M : av_M) (args : List Value) (w : av_W) (P : Option Value → av_W → Prop) : Prop := rn M 0 (av_ent args M.2.2.1) [] w P
/-- a call with one answer, and one world behind it -/
def fn (M : av_M) (args : List Value) (w : av_W) (r : Option Value) (w2 : av_W) : Prop := cl M args w (fun r' w' => r' = r ∧ w' = w2)
theorem arun_mono : ∀ (f : Nat) (M : av_M) (pc : Nat) (ls : av_L) (st : List Value) (w : av_W) (x : Option Value × av_W), arun f M pc ls st w = some x → arun (f + 1) M pc ls st w = some x := by
  intro f
  induction f with
  | zero =>
    intro M pc ls st w x h
    cases h
  | succ f ih =>
    intro M pc ls st w x h
    unfold arun at h ⊢
    split at h
    case h_2 => cases h
    case h_1 =>
    rename_i i len hd
    split at h
    case h_1 => exact h
    case h_2 =>
    split at h
    case h_1 =>
      split at h
      case isFalse => cases h
      case isTrue hc =>
      rw [if_pos hc]
      split at h
      case h_2 => cases h
      case h_1 =>
      rename_i r2 w3 h3
      rw [ih _ _ _ _ _ _ h3]
      split at h
      case isFalse => cases h
      case isTrue hb =>
      simp only [hb]
      exact ih _ _ _ _ _ _ h
    case h_2 =>
      split at h
      case h_2 => cases h
      case h_1 =>
      exact ih _ _ _ _ _ _ h
theorem arun_le {f g : Nat} (hfg : f ≤ g) {M : av_M} {pc : Nat} {ls : av_L} {st : List Value} {w : av_W} {x : Option Value × av_W} (h : arun f M pc ls st w = some x) : arun g M pc ls st w = some x := by
  induction hfg with
  | refl => exact h
  | step _ ih => exact arun_mono _ _ _ _ _ _ _ ih
theorem rn.imp {M : av_M} {pc : Nat} {ls : av_L} {st : List Value} {w : av_W} {P P2 : Option Value → av_W → Prop} (h : rn M pc ls st w P) (hp : ∀ r w2, P r w2 → P2 r w2) : rn M pc ls st w P2 := by
  obtain ⟨f, r, w2, h1, h2⟩ := h
  exact ⟨f, r, w2, h1, hp r w2 h2⟩
def av_pv (o : Option Value) : Bool := match o with
  | some v => v.category == 2
  | none => false
theorem av_inr_z {x : Int} {n : Nat} (h0 : 0 ≤ x) (hx : x < n) (hn : n ≤ 1000) : av_inr (iN x) n = true := by
  unfold av_inr
  simp only [Bool.and_eq_true, decide_eq_true_eq]
  refine ⟨fun q => ?_, ?_⟩
  · have := (iN_lt (y := 0) (by omega) (by omega)).mp q
    omega
  · rw [iN_clamp (by omega)]
    omega
theorem av_sto_0 { b : Option Value} {l : av_L} {v : Value} : av_sto (b :: l) 0 v = some (some v :: l) := by
  unfold av_sto
  rw [if_pos ⟨by simp, rfl⟩]
  rfl
theorem av_sto_1 {a0 b : Option Value} {l : av_L} {v : Value} (hp : av_pv a0 = false) : av_sto (a0 :: b :: l) 1 v = some (a0 :: some v :: l) := by
  unfold av_sto
  rw [if_pos ⟨by simp, by cases a0 with | none => rfl | some v => exact hp⟩]
  rfl
theorem av_sto_2 {a0 a1 b : Option Value} {l : av_L} {v : Value} (hp : av_pv a1 = false) : av_sto (a0 :: a1 :: b :: l) 2 v = some (a0 :: a1 :: some v :: l) := by
  unfold av_sto
  rw [if_pos ⟨by simp, by cases a1 with | none => rfl | some v => exact hp⟩]
  rfl
theorem av_sto_3 {a0 a1 a2 b : Option Value} {l : av_L} {v : Value} (hp : av_pv a2 = false) : av_sto (a0 :: a1 :: a2 :: b :: l) 3 v = some (a0 :: a1 :: a2 :: some v :: l) := by
  unfold av_sto
  rw [if_pos ⟨by simp, by cases a2 with | none => rfl | some v => exact hp⟩]
  rfl
theorem av_sto_4 {a0 a1 a2 a3 b : Option Value} {l : av_L} {v : Value} (hp : av_pv a3 = false) : av_sto (a0 :: a1 :: a2 :: a3 :: b :: l) 4 v = some (a0 :: a1 :: a2 :: a3 :: some v :: l) := by
  unfold av_sto
  rw [if_pos ⟨by simp, by cases a3 with | none => rfl | some v => exact hp⟩]
  rfl
theorem av_sto_5 {a0 a1 a2 a3 a4 b : Option Value} {l : av_L} {v : Value} (hp : av_pv a4 = false) : av_sto (a0 :: a1 :: a2 :: a3 :: a4 :: b :: l) 5 v = some (a0 :: a1 :: a2 :: a3 :: a4 :: some v :: l) := by
  unfold av_sto
  rw [if_pos ⟨by simp, by cases a4 with | none => rfl | some v => exact hp⟩]
  rfl
theorem av_sto_6 {a0 a1 a2 a3 a4 a5 b : Option Value} {l : av_L} {v : Value} (hp : av_pv a5 = false) : av_sto (a0 :: a1 :: a2 :: a3 :: a4 :: a5 :: b :: l) 6 v = some (a0 :: a1 :: a2 :: a3 :: a4 :: a5 :: some v :: l) := by
  unfold av_sto
  rw [if_pos ⟨by simp, by cases a5 with | none => rfl | some v => exact hp⟩]
  rfl
theorem av_sto_7 {a0 a1 a2 a3 a4 a5 a6 b : Option Value} {l : av_L} {v : Value} (hp : av_pv a6 = false) : av_sto (a0 :: a1 :: a2 :: a3 :: a4 :: a5 :: a6 :: b :: l) 7 v = some (a0 :: a1 :: a2 :: a3 :: a4 :: a5 :: a6 :: some v :: l) := by
  unfold av_sto
  rw [if_pos ⟨by simp, by cases a6 with | none => rfl | some v => exact hp⟩]
  rfl
theorem av_sto_8 {a0 a1 a2 a3 a4 a5 a6 a7 b : Option Value} {l : av_L} {v : Value} (hp : av_pv a7 = false) : av_sto (a0 :: a1 :: a2 :: a3 :: a4 :: a5 :: a6 :: a7 :: b :: l) 8 v = some (a0 :: a1 :: a2 :: a3 :: a4 :: a5 :: a6 :: a7 :: some v :: l) := by
  unfold av_sto
  rw [if_pos ⟨by simp, by cases a7 with | none => rfl | some v => exact hp⟩]
  rfl
theorem av_sto_9 {a0 a1 a2 a3 a4 a5 a6 a7 a8 b : Option Value} {l : av_L} {v : Value} (hp : av_pv a8 = false) : av_sto (a0 :: a1 :: a2 :: a3 :: a4 :: a5 :: a6 :: a7 :: a8 :: b :: l) 9 v = some (a0 :: a1 :: a2 :: a3 :: a4 :: a5 :: a6 :: a7 :: a8 :: some v :: l) := by
  unfold av_sto
  rw [if_pos ⟨by simp, by cases a8 with | none => rfl | some v => exact hp⟩]
  rfl
theorem av_sto_10 {a0 a1 a2 a3 a4 a5 a6 a7 a8 a9 b : Option Value} {l : av_L} {v : Value} (hp : av_pv a9 = false) : av_sto (a0 :: a1 :: a2 :: a3 :: a4 :: a5 :: a6 :: a7 :: a8 :: a9 :: b :: l) 10 v = some (a0 :: a1 :: a2 :: a3 :: a4 :: a5 :: a6 :: a7 :: a8 :: a9 :: some v :: l) := by
  unfold av_sto
  rw [if_pos ⟨by simp, by cases a9 with | none => rfl | some v => exact hp⟩]
  rfl
theorem av_sto_11 {a0 a1 a2 a3 a4 a5 a6 a7 a8 a9 a10 b : Option Value} {l : av_L} {v : Value} (hp : av_pv a10 = false) : av_sto (a0 :: a1 :: a2 :: a3 :: a4 :: a5 :: a6 :: a7 :: a8 :: a9 :: a10 :: b :: l) 11 v = some (a0 :: a1 :: a2 :: a3 :: a4 :: a5 :: a6 :: a7 :: a8 :: a9 :: a10 :: some v :: l) := by
  unfold av_sto
  rw [if_pos ⟨by simp, by cases a10 with | none => rfl | some v => exact hp⟩]
  rfl
theorem av_sto_12 {a0 a1 a2 a3 a4 a5 a6 a7 a8 a9 a10 a11 b : Option Value} {l : av_L} {v : Value} (hp : av_pv a11 = false) : av_sto (a0 :: a1 :: a2 :: a3 :: a4 :: a5 :: a6 :: a7 :: a8 :: a9 :: a10 :: a11 :: b :: l) 12 v = some (a0 :: a1 :: a2 :: a3 :: a4 :: a5 :: a6 :: a7 :: a8 :: a9 :: a10 :: a11 :: some v :: l) := by
  unfold av_sto
  rw [if_pos ⟨by simp, by cases a11 with | none => rfl | some v => exact hp⟩]
  rfl
theorem av_sto_13 {a0 a1 a2 a3 a4 a5 a6 a7 a8 a9 a10 a11 a12 b : Option Value} {l : av_L} {v : Value} (hp : av_pv a12 = false) : av_sto (a0 :: a1 :: a2 :: a3 :: a4 :: a5 :: a6 :: a7 :: a8 :: a9 :: a10 :: a11 :: a12 :: b :: l) 13 v = some (a0 :: a1 :: a2 :: a3 :: a4 :: a5 :: a6 :: a7 :: a8 :: a9 :: a10 :: a11 :: a12 :: some v :: l) := by
  unfold av_sto
  rw [if_pos ⟨by simp, by cases a12 with | none => rfl | some v => exact hp⟩]
  rfl
section RN
variable {M M2 : av_M} {pc pc2 len : Nat} {ls ls2 : av_L} {st st2 rest args : List Value} {w w2 : av_W} {P : Option Value → av_W → Prop} {i : Instr}
theorem rn_step (d : decode M.2.1 pc = .ok (i, len)) (h1 : av_ret M i len st = none) (h2 : av_inv M i len st = none) (h3 : av_step M i len pc ls st w = some (pc2, ls2, st2, w2)) (n : rn M pc2 ls2 st2 w2 P) : rn M pc ls st w P := by
  obtain ⟨f, r, w3, h, hp⟩ := n
  refine ⟨f + 1, r, w3, ?_, hp⟩
  unfold arun
  simp only [d, h1, h2, h3]
  exact h
theorem rn_ret {r : Option Value} (d : decode M.2.1 pc = .ok (i, len)) (h1 : av_ret M i len st = some r) (n : P r w) : rn M pc ls st w P := by
  refine ⟨1, r, w, ?_, n⟩
  unfold arun
  simp only [d, h1]
theorem rn_call {k : Nat} {P2 : Option Value → av_W → Prop} (d : decode M.2.1 pc = .ok (i, len)) (h1 : av_ret M i len st = none) (h2 : av_inv M i len st = some (k, M2, args, rest)) (h3 : av_rcv k M2 args w = true ∧ (av_ents args).length ≤ M2.2.2.1) (c : cl M2 args w P2)
    (n : ∀ r w2, P2 r w2 → av_back ls rest w w2 = true ∧ rn M (pc + 3) ls (r.toList ++ rest) w2 P) : rn M pc ls st w P := by
  obtain ⟨f1, r1, w1, c1, c2⟩ := c
  obtain ⟨hb, f2, r2, w3, n1, n2⟩ := n r1 w1 c2
  refine ⟨max f1 f2 + 1, r2, w3, ?_, n2⟩
  unfold arun
  simp only [d, h1, h2]
  rw [if_pos h3, arun_le (Nat.le_max_left f1 f2) c1]
  simp only [hb]
  exact arun_le (Nat.le_max_right f1 f2) n1
theorem r_aload_n {k : Fin 4} {x : Nat} (d : decode M.2.1 pc = .ok (.aload_n k, 1)) (e : pc + 1 = pc2) (h : ls[k.val]? = some (some (.ref x))) (n : rn M pc2 ls (.ref x :: st) w P) : rn M pc ls st w P := by
  subst e
  refine rn_step d rfl rfl ?_ n
  show av_ald 1 k.val 1 pc ls st w = _
  unfold av_ald
  rw [h]
  rfl
theorem r_iload_n {k : Fin 4} {x : Int32} (d : decode M.2.1 pc = .ok (.iload_n k, 1)) (e : pc + 1 = pc2) (h : ls[k.val]? = some (some (.int x))) (n : rn M pc2 ls (.int x :: st) w P) : rn M pc ls st w P := by
  subst e
  refine rn_step d rfl rfl ?_ n
  show av_ild 1 k.val 1 pc ls st w = _
  unfold av_ild
  rw [h]
  rfl
theorem r_lload_n {k : Fin 4} {x : Int64} (d : decode M.2.1 pc = .ok (.lload_n k, 1)) (e : pc + 1 = pc2) (h : ls[k.val]? = some (some (.long x))) (n : rn M pc2 ls (.long x :: st) w P) : rn M pc ls st w P := by
  subst e
  refine rn_step d rfl rfl ?_ n
  show av_lld 1 k.val 1 pc ls st w = _
  unfold av_lld
  rw [h]
  rfl
theorem r_iload {k : Nat} {x : Int32} (d : decode M.2.1 pc = .ok (.iload k, 2)) (e : pc + 2 = pc2) (h : ls[k]? = some (some (.int x))) (n : rn M pc2 ls (.int x :: st) w P) : rn M pc ls st w P := by
  subst e
  refine rn_step d rfl rfl ?_ n
  show av_ild 2 k 2 pc ls st w = _
  unfold av_ild
  rw [h]
  rfl
theorem r_lload {k : Nat} {x : Int64} (d : decode M.2.1 pc = .ok (.lload k, 2)) (e : pc + 2 = pc2) (h : ls[k]? = some (some (.long x))) (n : rn M pc2 ls (.long x :: st) w P) : rn M pc ls st w P := by
  subst e
  refine rn_step d rfl rfl ?_ n
  show av_lld 2 k 2 pc ls st w = _
  unfold av_lld
  rw [h]
  rfl
theorem r_ist_0 {x : Int32} { b : Option Value} {l : av_L} (d : decode M.2.1 pc = .ok (.istore_n 0, 1)) (e : pc + 1 = pc2) (n : rn M pc2 (some (.int x) :: l) st w P) : rn M pc (b :: l) (.int x :: st) w P := by
  subst e
  refine rn_step d rfl rfl ?_ n
  show av_ist 1 0 1 pc (b :: l) (.int x :: st) w = _
  unfold av_ist
  dsimp only
  rw [if_pos rfl, av_sto_0]
  rfl
theorem r_ist_1 {x : Int32} {a0 b : Option Value} {l : av_L} (d : decode M.2.1 pc = .ok (.istore_n 1, 1)) (e : pc + 1 = pc2) (hp : av_pv a0 = false) (n : rn M pc2 (a0 :: some (.int x) :: l) st w P) : rn M pc (a0 :: b :: l) (.int x :: st) w P := by
  subst e
  refine rn_step d rfl rfl ?_ n
  show av_ist 1 1 1 pc (a0 :: b :: l) (.int x :: st) w = _
  unfold av_ist
  dsimp only
  rw [if_pos rfl, av_sto_1 hp]
  rfl
theorem r_ist_2 {x : Int32} {a0 a1 b : Option Value} {l : av_L} (d : decode M.2.1 pc = .ok (.istore_n 2, 1)) (e : pc + 1 = pc2) (hp : av_pv a1 = false) (n : rn M pc2 (a0 :: a1 :: some (.int x) :: l) st w P) : rn M pc (a0 :: a1 :: b :: l) (.int x :: st) w P := by
  subst e
  refine rn_step d rfl rfl ?_ n
  show av_ist 1 2 1 pc (a0 :: a1 :: b :: l) (.int x :: st) w = _
  unfold av_ist
  dsimp only
  rw [if_pos rfl, av_sto_2 hp]
  rfl
theorem r_ist_3 {x : Int32} {a0 a1 a2 b : Option Value} {l : av_L} (d : decode M.2.1 pc = .ok (.istore_n 3, 1)) (e : pc + 1 = pc2) (hp : av_pv a2 = false) (n : rn M pc2 (a0 :: a1 :: a2 :: some (.int x) :: l) st w P) : rn M pc (a0 :: a1 :: a2 :: b :: l) (.int x :: st) w P := by
  subst e
  refine rn_step d rfl rfl ?_ n
  show av_ist 1 3 1 pc (a0 :: a1 :: a2 :: b :: l) (.int x :: st) w = _
  unfold av_ist
  dsimp only
  rw [if_pos rfl, av_sto_3 hp]
  rfl
theorem r_ist_4 {x : Int32} {a0 a1 a2 a3 b : Option Value} {l : av_L} (d : decode M.2.1 pc = .ok (.istore 4, 2)) (e : pc + 2 = pc2) (hp : av_pv a3 = false) (n : rn M pc2 (a0 :: a1 :: a2 :: a3 :: some (.int x) :: l) st w P) : rn M pc (a0 :: a1 :: a2 :: a3 :: b :: l) (.int x :: st) w P := by
  subst e
  refine rn_step d rfl rfl ?_ n
  show av_ist 2 4 2 pc (a0 :: a1 :: a2 :: a3 :: b :: l) (.int x :: st) w = _
  unfold av_ist
  dsimp only
  rw [if_pos rfl, av_sto_4 hp]
  rfl
theorem r_ist_5 {x : Int32} {a0 a1 a2 a3 a4 b : Option Value} {l : av_L} (d : decode M.2.1 pc = .ok (.istore 5, 2)) (e : pc + 2 = pc2) (hp : av_pv a4 = false) (n : rn M pc2 (a0 :: a1 :: a2 :: a3 :: a4 :: some (.int x) :: l) st w P) : rn M pc (a0 :: a1 :: a2 :: a3 :: a4 :: b :: l) (.int x :: st) w P := by
  subst e
  refine rn_step d rfl rfl ?_ n
  show av_ist 2 5 2 pc (a0 :: a1 :: a2 :: a3 :: a4 :: b :: l) (.int x :: st) w = _
  unfold av_ist
  dsimp only
  rw [if_pos rfl, av_sto_5 hp]
  rfl
theorem r_ist_6 {x : Int32} {a0 a1 a2 a3 a4 a5 b : Option Value} {l : av_L} (d : decode M.2.1 pc = .ok (.istore 6, 2)) (e : pc + 2 = pc2) (hp : av_pv a5 = false) (n : rn M pc2 (a0 :: a1 :: a2 :: a3 :: a4 :: a5 :: some (.int x) :: l) st w P) : rn M pc (a0 :: a1 :: a2 :: a3 :: a4 :: a5 :: b :: l) (.int x :: st) w P := by
  subst e
  refine rn_step d rfl rfl ?_ n
  show av_ist 2 6 2 pc (a0 :: a1 :: a2 :: a3 :: a4 :: a5 :: b :: l) (.int x :: st) w = _
  unfold av_ist
  dsimp only
  rw [if_pos rfl, av_sto_6 hp]
  rfl
theorem r_ist_7 {x : Int32} {a0 a1 a2 a3 a4 a5 a6 b : Option Value} {l : av_L} (d : decode M.2.1 pc = .ok (.istore 7, 2)) (e : pc + 2 = pc2) (hp : av_pv a6 = false) (n : rn M pc2 (a0 :: a1 :: a2 :: a3 :: a4 :: a5 :: a6 :: some (.int x) :: l) st w P) : rn M pc (a0 :: a1 :: a2 :: a3 :: a4 :: a5 :: a6 :: b :: l) (.int x :: st) w P := by
  subst e
  refine rn_step d rfl rfl ?_ n
  show av_ist 2 7 2 pc (a0 :: a1 :: a2 :: a3 :: a4 :: a5 :: a6 :: b :: l) (.int x :: st) w = _
  unfold av_ist
  dsimp only
  rw [if_pos rfl, av_sto_7 hp]
  rfl
theorem r_ist_8 {x : Int32} {a0 a1 a2 a3 a4 a5 a6 a7 b : Option Value} {l : av_L} (d : decode M.2.1 pc = .ok (.istore 8, 2)) (e : pc + 2 = pc2) (hp : av_pv a7 = false) (n : rn M pc2 (a0 :: a1 :: a2 :: a3 :: a4 :: a5 :: a6 :: a7 :: some (.int x) :: l) st w P) : rn M pc (a0 :: a1 :: a2 :: a3 :: a4 :: a5 :: a6 :: a7 :: b :: l) (.int x :: st) w P := by
  subst e
  refine rn_step d rfl rfl ?_ n
  show av_ist 2 8 2 pc (a0 :: a1 :: a2 :: a3 :: a4 :: a5 :: a6 :: a7 :: b :: l) (.int x :: st) w = _
  unfold av_ist
  dsimp only
  rw [if_pos rfl, av_sto_8 hp]
  rfl
theorem r_ist_9 {x : Int32} {a0 a1 a2 a3 a4 a5 a6 a7 a8 b : Option Value} {l : av_L} (d : decode M.2.1 pc = .ok (.istore 9, 2)) (e : pc + 2 = pc2) (hp : av_pv a8 = false) (n : rn M pc2 (a0 :: a1 :: a2 :: a3 :: a4 :: a5 :: a6 :: a7 :: a8 :: some (.int x) :: l) st w P) : rn M pc (a0 :: a1 :: a2 :: a3 :: a4 :: a5 :: a6 :: a7 :: a8 :: b :: l) (.int x :: st) w P := by
  subst e
  refine rn_step d rfl rfl ?_ n
  show av_ist 2 9 2 pc (a0 :: a1 :: a2 :: a3 :: a4 :: a5 :: a6 :: a7 :: a8 :: b :: l) (.int x :: st) w = _
  unfold av_ist
  dsimp only
  rw [if_pos rfl, av_sto_9 hp]
  rfl
theorem r_ist_10 {x : Int32} {a0 a1 a2 a3 a4 a5 a6 a7 a8 a9 b : Option Value} {l : av_L} (d : decode M.2.1 pc = .ok (.istore 10, 2)) (e : pc + 2 = pc2) (hp : av_pv a9 = false) (n : rn M pc2 (a0 :: a1 :: a2 :: a3 :: a4 :: a5 :: a6 :: a7 :: a8 :: a9 :: some (.int x) :: l) st w P) : rn M pc (a0 :: a1 :: a2 :: a3 :: a4 :: a5 :: a6 :: a7 :: a8 :: a9 :: b :: l) (.int x :: st) w P := by
  subst e
  refine rn_step d rfl rfl ?_ n
  show av_ist 2 10 2 pc (a0 :: a1 :: a2 :: a3 :: a4 :: a5 :: a6 :: a7 :: a8 :: a9 :: b :: l) (.int x :: st) w = _
  unfold av_ist
  dsimp only
  rw [if_pos rfl, av_sto_10 hp]
  rfl
theorem r_ist_11 {x : Int32} {a0 a1 a2 a3 a4 a5 a6 a7 a8 a9 a10 b : Option Value} {l : av_L} (d : decode M.2.1 pc = .ok (.istore 11, 2)) (e : pc + 2 = pc2) (hp : av_pv a10 = false) (n : rn M pc2 (a0 :: a1 :: a2 :: a3 :: a4 :: a5 :: a6 :: a7 :: a8 :: a9 :: a10 :: some (.int x) :: l) st w P) : rn M pc (a0 :: a1 :: a2 :: a3 :: a4 :: a5 :: a6 :: a7 :: a8 :: a9 :: a10 :: b :: l) (.int x :: st) w P := by
  subst e
  refine rn_step d rfl rfl ?_ n
  show av_ist 2 11 2 pc (a0 :: a1 :: a2 :: a3 :: a4 :: a5 :: a6 :: a7 :: a8 :: a9 :: a10 :: b :: l) (.int x :: st) w = _
  unfold av_ist
  dsimp only
  rw [if_pos rfl, av_sto_11 hp]
  rfl
theorem r_ist_12 {x : Int32} {a0 a1 a2 a3 a4 a5 a6 a7 a8 a9 a10 a11 b : Option Value} {l : av_L} (d : decode M.2.1 pc = .ok (.istore 12, 2)) (e : pc + 2 = pc2) (hp : av_pv a11 = false) (n : rn M pc2 (a0 :: a1 :: a2 :: a3 :: a4 :: a5 :: a6 :: a7 :: a8 :: a9 :: a10 :: a11 :: some (.int x) :: l) st w P) : rn M pc (a0 :: a1 :: a2 :: a3 :: a4 :: a5 :: a6 :: a7 :: a8 :: a9 :: a10 :: a11 :: b :: l) (.int x :: st) w P := by
  subst e
  refine rn_step d rfl rfl ?_ n
  show av_ist 2 12 2 pc (a0 :: a1 :: a2 :: a3 :: a4 :: a5 :: a6 :: a7 :: a8 :: a9 :: a10 :: a11 :: b :: l) (.int x :: st) w = _
  unfold av_ist
  dsimp only
  rw [if_pos rfl, av_sto_12 hp]
  rfl
theorem r_ist_13 {x : Int32} {a0 a1 a2 a3 a4 a5 a6 a7 a8 a9 a10 a11 a12 b : Option Value} {l : av_L} (d : decode M.2.1 pc = .ok (.istore 13, 2)) (e : pc + 2 = pc2) (hp : av_pv a12 = false) (n : rn M pc2 (a0 :: a1 :: a2 :: a3 :: a4 :: a5 :: a6 :: a7 :: a8 :: a9 :: a10 :: a11 :: a12 :: some (.int x) :: l) st w P) : rn M pc (a0 :: a1 :: a2 :: a3 :: a4 :: a5 :: a6 :: a7 :: a8 :: a9 :: a10 :: a11 :: a12 :: b :: l) (.int x :: st) w P := by
  subst e
  refine rn_step d rfl rfl ?_ n
  show av_ist 2 13 2 pc (a0 :: a1 :: a2 :: a3 :: a4 :: a5 :: a6 :: a7 :: a8 :: a9 :: a10 :: a11 :: a12 :: b :: l) (.int x :: st) w = _
  unfold av_ist
  dsimp only
  rw [if_pos rfl, av_sto_13 hp]
  rfl
theorem r_ast_0 {x : Nat} { b : Option Value} {l : av_L} (d : decode M.2.1 pc = .ok (.astore_n 0, 1)) (e : pc + 1 = pc2) (n : rn M pc2 (some (.ref x) :: l) st w P) : rn M pc (b :: l) (.ref x :: st) w P := by
  subst e
  refine rn_step d rfl rfl ?_ n
  show av_ast 1 0 1 pc (b :: l) (.ref x :: st) w = _
  unfold av_ast
  dsimp only
  rw [if_pos rfl, av_sto_0]
  rfl
theorem r_ast_1 {x : Nat} {a0 b : Option Value} {l : av_L} (d : decode M.2.1 pc = .ok (.astore_n 1, 1)) (e : pc + 1 = pc2) (hp : av_pv a0 = false) (n : rn M pc2 (a0 :: some (.ref x) :: l) st w P) : rn M pc (a0 :: b :: l) (.ref x :: st) w P := by
  subst e
  refine rn_step d rfl rfl ?_ n
  show av_ast 1 1 1 pc (a0 :: b :: l) (.ref x :: st) w = _
  unfold av_ast
  dsimp only
  rw [if_pos rfl, av_sto_1 hp]
  rfl
theorem r_ast_2 {x : Nat} {a0 a1 b : Option Value} {l : av_L} (d : decode M.2.1 pc = .ok (.astore_n 2, 1)) (e : pc + 1 = pc2) (hp : av_pv a1 = false) (n : rn M pc2 (a0 :: a1 :: some (.ref x) :: l) st w P) : rn M pc (a0 :: a1 :: b :: l) (.ref x :: st) w P := by
  subst e
  refine rn_step d rfl rfl ?_ n
  show av_ast 1 2 1 pc (a0 :: a1 :: b :: l) (.ref x :: st) w = _
  unfold av_ast
  dsimp only
  rw [if_pos rfl, av_sto_2 hp]
  rfl
theorem r_ast_3 {x : Nat} {a0 a1 a2 b : Option Value} {l : av_L} (d : decode M.2.1 pc = .ok (.astore_n 3, 1)) (e : pc + 1 = pc2) (hp : av_pv a2 = false) (n : rn M pc2 (a0 :: a1 :: a2 :: some (.ref x) :: l) st w P) : rn M pc (a0 :: a1 :: a2 :: b :: l) (.ref x :: st) w P := by
  subst e
  refine rn_step d rfl rfl ?_ n
  show av_ast 1 3 1 pc (a0 :: a1 :: a2 :: b :: l) (.ref x :: st) w = _
  unfold av_ast
  dsimp only
  rw [if_pos rfl, av_sto_3 hp]
  rfl
theorem r_iinc_0 {n0 x : Int} {l : av_L} (d : decode M.2.1 pc = .ok (.iinc 0 n0, 3)) (e : pc + 3 = pc2) (n : rn M pc2 (some (.int (iN (x + n0))) :: l) st w P) : rn M pc (some (.int (iN x)) :: l) st w P := by
  subst e
  refine rn_step d rfl rfl ?_ n
  have h9 : ∀ l ls2 : av_L, l[0]? = some (some (.int (iN x))) → av_sto l 0 (.int (iN (x + n0))) = some ls2 → av_iinc 0 n0 3 pc l st w = some (pc + 3, ls2, st, w) := fun l ls2 q1 q2 => by
    unfold av_iinc
    rw [q1]
    dsimp only
    rw [if_pos rfl, show iN x + Int32.ofInt n0 = iN (x + n0) from iN_add x n0, q2]
    rfl
  exact h9 _ _ rfl (av_sto_0)
theorem r_iinc_1 {n0 x : Int} {a0 : Option Value} {l : av_L} (d : decode M.2.1 pc = .ok (.iinc 1 n0, 3)) (e : pc + 3 = pc2) (hp : av_pv a0 = false) (n : rn M pc2 (a0 :: some (.int (iN (x + n0))) :: l) st w P) : rn M pc (a0 :: some (.int (iN x)) :: l) st w P := by
  subst e
  refine rn_step d rfl rfl ?_ n
  have h9 : ∀ l ls2 : av_L, l[1]? = some (some (.int (iN x))) → av_sto l 1 (.int (iN (x + n0))) = some ls2 → av_iinc 1 n0 3 pc l st w = some (pc + 3, ls2, st, w) := fun l ls2 q1 q2 => by
    unfold av_iinc
    rw [q1]
    dsimp only
    rw [if_pos rfl, show iN x + Int32.ofInt n0 = iN (x + n0) from iN_add x n0, q2]
    rfl
  exact h9 _ _ rfl (av_sto_1 hp)
theorem r_iinc_2 {n0 x : Int} {a0 a1 : Option Value} {l : av_L} (d : decode M.2.1 pc = .ok (.iinc 2 n0, 3)) (e : pc + 3 = pc2) (hp : av_pv a1 = false) (n : rn M pc2 (a0 :: a1 :: some (.int (iN (x + n0))) :: l) st w P) : rn M pc (a0 :: a1 :: some (.int (iN x)) :: l) st w P := by
  subst e
  refine rn_step d rfl rfl ?_ n
  have h9 : ∀ l ls2 : av_L, l[2]? = some (some (.int (iN x))) → av_sto l 2 (.int (iN (x + n0))) = some ls2 → av_iinc 2 n0 3 pc l st w = some (pc + 3, ls2, st, w) := fun l ls2 q1 q2 => by
    unfold av_iinc
    rw [q1]
    dsimp only
    rw [if_pos rfl, show iN x + Int32.ofInt n0 = iN (x + n0) from iN_add x n0, q2]
    rfl
  exact h9 _ _ rfl (av_sto_2 hp)
theorem r_iinc_3 {n0 x : Int} {a0 a1 a2 : Option Value} {l : av_L} (d : decode M.2.1 pc = .ok (.iinc 3 n0, 3)) (e : pc + 3 = pc2) (hp : av_pv a2 = false) (n : rn M pc2 (a0 :: a1 :: a2 :: some (.int (iN (x + n0))) :: l) st w P) : rn M pc (a0 :: a1 :: a2 :: some (.int (iN x)) :: l) st w P := by
  subst e
  refine rn_step d rfl rfl ?_ n
  have h9 : ∀ l ls2 : av_L, l[3]? = some (some (.int (iN x))) → av_sto l 3 (.int (iN (x + n0))) = some ls2 → av_iinc 3 n0 3 pc l st w = some (pc + 3, ls2, st, w) := fun l ls2 q1 q2 => by
    unfold av_iinc
    rw [q1]
    dsimp only
    rw [if_pos rfl, show iN x + Int32.ofInt n0 = iN (x + n0) from iN_add x n0, q2]
    rfl
  exact h9 _ _ rfl (av_sto_3 hp)
theorem r_iinc_4 {n0 x : Int} {a0 a1 a2 a3 : Option Value} {l : av_L} (d : decode M.2.1 pc = .ok (.iinc 4 n0, 3)) (e : pc + 3 = pc2) (hp : av_pv a3 = false) (n : rn M pc2 (a0 :: a1 :: a2 :: a3 :: some (.int (iN (x + n0))) :: l) st w P) : rn M pc (a0 :: a1 :: a2 :: a3 :: some (.int (iN x)) :: l) st w P := by
  subst e
  refine rn_step d rfl rfl ?_ n
  have h9 : ∀ l ls2 : av_L, l[4]? = some (some (.int (iN x))) → av_sto l 4 (.int (iN (x + n0))) = some ls2 → av_iinc 4 n0 3 pc l st w = some (pc + 3, ls2, st, w) := fun l ls2 q1 q2 => by
    unfold av_iinc
    rw [q1]
    dsimp only
    rw [if_pos rfl, show iN x + Int32.ofInt n0 = iN (x + n0) from iN_add x n0, q2]
    rfl
  exact h9 _ _ rfl (av_sto_4 hp)
theorem r_iinc_5 {n0 x : Int} {a0 a1 a2 a3 a4 : Option Value} {l : av_L} (d : decode M.2.1 pc = .ok (.iinc 5 n0, 3)) (e : pc + 3 = pc2) (hp : av_pv a4 = false) (n : rn M pc2 (a0 :: a1 :: a2 :: a3 :: a4 :: some (.int (iN (x + n0))) :: l) st w P) : rn M pc (a0 :: a1 :: a2 :: a3 :: a4 :: some (.int (iN x)) :: l) st w P := by
  subst e
  refine rn_step d rfl rfl ?_ n
  have h9 : ∀ l ls2 : av_L, l[5]? = some (some (.int (iN x))) → av_sto l 5 (.int (iN (x + n0))) = some ls2 → av_iinc 5 n0 3 pc l st w = some (pc + 3, ls2, st, w) := fun l ls2 q1 q2 => by
    unfold av_iinc
    rw [q1]
    dsimp only
    rw [if_pos rfl, show iN x + Int32.ofInt n0 = iN (x + n0) from iN_add x n0, q2]
    rfl
  exact h9 _ _ rfl (av_sto_5 hp)
theorem r_iinc_6 {n0 x : Int} {a0 a1 a2 a3 a4 a5 : Option Value} {l : av_L} (d : decode M.2.1 pc = .ok (.iinc 6 n0, 3)) (e : pc + 3 = pc2) (hp : av_pv a5 = false) (n : rn M pc2 (a0 :: a1 :: a2 :: a3 :: a4 :: a5 :: some (.int (iN (x + n0))) :: l) st w P) : rn M pc (a0 :: a1 :: a2 :: a3 :: a4 :: a5 :: some (.int (iN x)) :: l) st w P := by
  subst e
  refine rn_step d rfl rfl ?_ n
  have h9 : ∀ l ls2 : av_L, l[6]? = some (some (.int (iN x))) → av_sto l 6 (.int (iN (x + n0))) = some ls2 → av_iinc 6 n0 3 pc l st w = some (pc + 3, ls2, st, w) := fun l ls2 q1 q2 => by
    unfold av_iinc
    rw [q1]
    dsimp only
    rw [if_pos rfl, show iN x + Int32.ofInt n0 = iN (x + n0) from iN_add x n0, q2]
    rfl
  exact h9 _ _ rfl (av_sto_6 hp)
theorem r_iinc_7 {n0 x : Int} {a0 a1 a2 a3 a4 a5 a6 : Option Value} {l : av_L} (d : decode M.2.1 pc = .ok (.iinc 7 n0, 3)) (e : pc + 3 = pc2) (hp : av_pv a6 = false) (n : rn M pc2 (a0 :: a1 :: a2 :: a3 :: a4 :: a5 :: a6 :: some (.int (iN (x + n0))) :: l) st w P) : rn M pc (a0 :: a1 :: a2 :: a3 :: a4 :: a5 :: a6 :: some (.int (iN x)) :: l) st w P := by
  subst e
  refine rn_step d rfl rfl ?_ n
  have h9 : ∀ l ls2 : av_L, l[7]? = some (some (.int (iN x))) → av_sto l 7 (.int (iN (x + n0))) = some ls2 → av_iinc 7 n0 3 pc l st w = some (pc + 3, ls2, st, w) := fun l ls2 q1 q2 => by
    unfold av_iinc
    rw [q1]
    dsimp only
    rw [if_pos rfl, show iN x + Int32.ofInt n0 = iN (x + n0) from iN_add x n0, q2]
    rfl
  exact h9 _ _ rfl (av_sto_7 hp)
theorem r_iinc_8 {n0 x : Int} {a0 a1 a2 a3 a4 a5 a6 a7 : Option Value} {l : av_L} (d : decode M.2.1 pc = .ok (.iinc 8 n0, 3)) (e : pc + 3 = pc2) (hp : av_pv a7 = false) (n : rn M pc2 (a0 :: a1 :: a2 :: a3 :: a4 :: a5 :: a6 :: a7 :: some (.int (iN (x + n0))) :: l) st w P) : rn M pc (a0 :: a1 :: a2 :: a3 :: a4 :: a5 :: a6 :: a7 :: some (.int (iN x)) :: l) st w P := by
  subst e
  refine rn_step d rfl rfl ?_ n
  have h9 : ∀ l ls2 : av_L, l[8]? = some (some (.int (iN x))) → av_sto l 8 (.int (iN (x + n0))) = some ls2 → av_iinc 8 n0 3 pc l st w = some (pc + 3, ls2, st, w) := fun l ls2 q1 q2 => by
    unfold av_iinc
    rw [q1]
    dsimp only
    rw [if_pos rfl, show iN x + Int32.ofInt n0 = iN (x + n0) from iN_add x n0, q2]
    rfl
  exact h9 _ _ rfl (av_sto_8 hp)
theorem r_iinc_9 {n0 x : Int} {a0 a1 a2 a3 a4 a5 a6 a7 a8 : Option Value} {l : av_L} (d : decode M.2.1 pc = .ok (.iinc 9 n0, 3)) (e : pc + 3 = pc2) (hp : av_pv a8 = false) (n : rn M pc2 (a0 :: a1 :: a2 :: a3 :: a4 :: a5 :: a6 :: a7 :: a8 :: some (.int (iN (x + n0))) :: l) st w P) : rn M pc (a0 :: a1 :: a2 :: a3 :: a4 :: a5 :: a6 :: a7 :: a8 :: some (.int (iN x)) :: l) st w P := by
  subst e
  refine rn_step d rfl rfl ?_ n
  have h9 : ∀ l ls2 : av_L, l[9]? = some (some (.int (iN x))) → av_sto l 9 (.int (iN (x + n0))) = some ls2 → av_iinc 9 n0 3 pc l st w = some (pc + 3, ls2, st, w) := fun l ls2 q1 q2 => by
    unfold av_iinc
    rw [q1]
    dsimp only
    rw [if_pos rfl, show iN x + Int32.ofInt n0 = iN (x + n0) from iN_add x n0, q2]
    rfl
  exact h9 _ _ rfl (av_sto_9 hp)
theorem r_iinc_10 {n0 x : Int} {a0 a1 a2 a3 a4 a5 a6 a7 a8 a9 : Option Value} {l : av_L} (d : decode M.2.1 pc = .ok (.iinc 10 n0, 3)) (e : pc + 3 = pc2) (hp : av_pv a9 = false) (n : rn M pc2 (a0 :: a1 :: a2 :: a3 :: a4 :: a5 :: a6 :: a7 :: a8 :: a9 :: some (.int (iN (x + n0))) :: l) st w P) : rn M pc (a0 :: a1 :: a2 :: a3 :: a4 :: a5 :: a6 :: a7 :: a8 :: a9 :: some (.int (iN x)) :: l) st w P := by
  subst e
  refine rn_step d rfl rfl ?_ n
  have h9 : ∀ l ls2 : av_L, l[10]? = some (some (.int (iN x))) → av_sto l 10 (.int (iN (x + n0))) = some ls2 → av_iinc 10 n0 3 pc l st w = some (pc + 3, ls2, st, w) := fun l ls2 q1 q2 => by
    unfold av_iinc
    rw [q1]
    dsimp only
    rw [if_pos rfl, show iN x + Int32.ofInt n0 = iN (x + n0) from iN_add x n0, q2]
    rfl
  exact h9 _ _ rfl (av_sto_10 hp)
theorem r_iinc_11 {n0 x : Int} {a0 a1 a2 a3 a4 a5 a6 a7 a8 a9 a10 : Option Value} {l : av_L} (d : decode M.2.1 pc = .ok (.iinc 11 n0, 3)) (e : pc + 3 = pc2) (hp : av_pv a10 = false) (n : rn M pc2 (a0 :: a1 :: a2 :: a3 :: a4 :: a5 :: a6 :: a7 :: a8 :: a9 :: a10 :: some (.int (iN (x + n0))) :: l) st w P) : rn M pc (a0 :: a1 :: a2 :: a3 :: a4 :: a5 :: a6 :: a7 :: a8 :: a9 :: a10 :: some (.int (iN x)) :: l) st w P := by
  subst e
  refine rn_step d rfl rfl ?_ n
  have h9 : ∀ l ls2 : av_L, l[11]? = some (some (.int (iN x))) → av_sto l 11 (.int (iN (x + n0))) = some ls2 → av_iinc 11 n0 3 pc l st w = some (pc + 3, ls2, st, w) := fun l ls2 q1 q2 => by
    unfold av_iinc
    rw [q1]
    dsimp only
    rw [if_pos rfl, show iN x + Int32.ofInt n0 = iN (x + n0) from iN_add x n0, q2]
    rfl
  exact h9 _ _ rfl (av_sto_11 hp)
theorem r_iinc_12 {n0 x : Int} {a0 a1 a2 a3 a4 a5 a6 a7 a8 a9 a10 a11 : Option Value} {l : av_L} (d : decode M.2.1 pc = .ok (.iinc 12 n0, 3)) (e : pc + 3 = pc2) (hp : av_pv a11 = false) (n : rn M pc2 (a0 :: a1 :: a2 :: a3 :: a4 :: a5 :: a6 :: a7 :: a8 :: a9 :: a10 :: a11 :: some (.int (iN (x + n0))) :: l) st w P) : rn M pc (a0 :: a1 :: a2 :: a3 :: a4 :: a5 :: a6 :: a7 :: a8 :: a9 :: a10 :: a11 :: some (.int (iN x)) :: l) st w P := by
  subst e
  refine rn_step d rfl rfl ?_ n
  have h9 : ∀ l ls2 : av_L, l[12]? = some (some (.int (iN x))) → av_sto l 12 (.int (iN (x + n0))) = some ls2 → av_iinc 12 n0 3 pc l st w = some (pc + 3, ls2, st, w) := fun l ls2 q1 q2 => by
    unfold av_iinc
    rw [q1]
    dsimp only
    rw [if_pos rfl, show iN x + Int32.ofInt n0 = iN (x + n0) from iN_add x n0, q2]
    rfl
  exact h9 _ _ rfl (av_sto_12 hp)
theorem r_iinc_13 {n0 x : Int} {a0 a1 a2 a3 a4 a5 a6 a7 a8 a9 a10 a11 a12 : Option Value} {l : av_L} (d : decode M.2.1 pc = .ok (.iinc 13 n0, 3)) (e : pc + 3 = pc2) (hp : av_pv a12 = false) (n : rn M pc2 (a0 :: a1 :: a2 :: a3 :: a4 :: a5 :: a6 :: a7 :: a8 :: a9 :: a10 :: a11 :: a12 :: some (.int (iN (x + n0))) :: l) st w P) : rn M pc (a0 :: a1 :: a2 :: a3 :: a4 :: a5 :: a6 :: a7 :: a8 :: a9 :: a10 :: a11 :: a12 :: some (.int (iN x)) :: l) st w P := by
  subst e
  refine rn_step d rfl rfl ?_ n
  have h9 : ∀ l ls2 : av_L, l[13]? = some (some (.int (iN x))) → av_sto l 13 (.int (iN (x + n0))) = some ls2 → av_iinc 13 n0 3 pc l st w = some (pc + 3, ls2, st, w) := fun l ls2 q1 q2 => by
    unfold av_iinc
    rw [q1]
    dsimp only
    rw [if_pos rfl, show iN x + Int32.ofInt n0 = iN (x + n0) from iN_add x n0, q2]
    rfl
  exact h9 _ _ rfl (av_sto_13 hp)
theorem r_iconst {n0 : Int} (d : decode M.2.1 pc = .ok (.iconst n0, 1)) (e : pc + 1 = pc2) (n : rn M pc2 ls (.int (iN n0) :: st) w P) : rn M pc ls st w P := by
  subst e
  exact rn_step d rfl rfl rfl n
theorem r_bipush {n0 : Int} (d : decode M.2.1 pc = .ok (.bipush n0, 2)) (e : pc + 2 = pc2) (hr : -128 ≤ n0 ∧ n0 ≤ 127) (n : rn M pc2 ls (.int (iN n0) :: st) w P) : rn M pc ls st w P := by
  subst e
  refine rn_step d rfl rfl ?_ n
  show some (pc + 2, ls, Value.int (Int8.ofInt n0).toInt32 :: st, w) = _
  rw [bip n0 hr.1 hr.2]
theorem r_sipush {n0 : Int} (d : decode M.2.1 pc = .ok (.sipush n0, 3)) (e : pc + 3 = pc2) (hr : -32768 ≤ n0 ∧ n0 ≤ 32767) (n : rn M pc2 ls (.int (iN n0) :: st) w P) : rn M pc ls st w P := by
  subst e
  refine rn_step d rfl rfl ?_ n
  show some (pc + 3, ls, Value.int (Int16.ofInt n0).toInt32 :: st, w) = _
  rw [sip n0 hr.1 hr.2]
theorem r_lconst {n0 : Fin 2} {z : Int} (d : decode M.2.1 pc = .ok (.lconst n0, 1)) (e : pc + 1 = pc2) (hz : Int64.ofNat n0.val = lZ z) (n : rn M pc2 ls (.long (lZ z) :: st) w P) : rn M pc ls st w P := by
  subst e
  rw [← hz] at n
  exact rn_step d rfl rfl rfl n
theorem r_ldc {k : Nat} {v : Int32} (d : decode M.2.1 pc = .ok (.ldc k, 2)) (e : pc + 2 = pc2) (h : av_ki M.2.2.2.2.1 k = some v) (n : rn M pc2 ls (.int v :: st) w P) : rn M pc ls st w P := by
  subst e
  refine rn_step d rfl rfl ?_ n
  show av_ldc M.2.2.2.2.1 k 2 pc ls st w = _
  unfold av_ldc
  rw [h]
  rfl
theorem r_ldl {k : Nat} {v : Int64} (d : decode M.2.1 pc = .ok (.ldc2_w k, 3)) (e : pc + 3 = pc2) (h : av_kl M.2.2.2.2.1 k = some v) (n : rn M pc2 ls (.long v :: st) w P) : rn M pc ls st w P := by
  subst e
  refine rn_step d rfl rfl ?_ n
  show av_ldl M.2.2.2.2.1 k 3 pc ls st w = _
  unfold av_ldl
  rw [h]
  rfl
theorem r_iadd {x y : Int} (d : decode M.2.1 pc = .ok (.iadd, 1)) (e : pc + 1 = pc2) (n : rn M pc2 ls (.int (iN (x + y)) :: st) w P) : rn M pc ls (.int (iN y) :: .int (iN x) :: st) w P := by
  subst e
  rw [← iN_add] at n
  exact rn_step d rfl rfl rfl n
theorem r_isub {x y : Int} (d : decode M.2.1 pc = .ok (.isub, 1)) (e : pc + 1 = pc2) (n : rn M pc2 ls (.int (iN (x - y)) :: st) w P) : rn M pc ls (.int (iN y) :: .int (iN x) :: st) w P := by
  subst e
  rw [← iN_sub] at n
  exact rn_step d rfl rfl rfl n
theorem r_imul {x y : Int} (d : decode M.2.1 pc = .ok (.imul, 1)) (e : pc + 1 = pc2) (n : rn M pc2 ls (.int (iN (x * y)) :: st) w P) : rn M pc ls (.int (iN y) :: .int (iN x) :: st) w P := by
  subst e
  rw [← iN_mul] at n
  exact rn_step d rfl rfl rfl n
theorem r_iand {x y z : Int32} (d : decode M.2.1 pc = .ok (.iand, 1)) (e : pc + 1 = pc2) (hz : x &&& y = z) (n : rn M pc2 ls (.int z :: st) w P) : rn M pc ls (.int y :: .int x :: st) w P := by
  subst e
  subst hz
  exact rn_step d rfl rfl rfl n
theorem r_ior {x y z : Int32} (d : decode M.2.1 pc = .ok (.ior, 1)) (e : pc + 1 = pc2) (hz : x ||| y = z) (n : rn M pc2 ls (.int z :: st) w P) : rn M pc ls (.int y :: .int x :: st) w P := by
  subst e
  subst hz
  exact rn_step d rfl rfl rfl n
theorem r_ixor {x y z : Int32} (d : decode M.2.1 pc = .ok (.ixor, 1)) (e : pc + 1 = pc2) (hz : x ^^^ y = z) (n : rn M pc2 ls (.int z :: st) w P) : rn M pc ls (.int y :: .int x :: st) w P := by
  subst e
  subst hz
  exact rn_step d rfl rfl rfl n
theorem r_ishl {x y z : Int32} (d : decode M.2.1 pc = .ok (.ishl, 1)) (e : pc + 1 = pc2) (hz : x <<< (y &&& 31) = z) (n : rn M pc2 ls (.int z :: st) w P) : rn M pc ls (.int y :: .int x :: st) w P := by
  subst e
  subst hz
  exact rn_step d rfl rfl rfl n
theorem r_ishr {x y z : Int32} (d : decode M.2.1 pc = .ok (.ishr, 1)) (e : pc + 1 = pc2) (hz : x >>> (y &&& 31) = z) (n : rn M pc2 ls (.int z :: st) w P) : rn M pc ls (.int y :: .int x :: st) w P := by
  subst e
  subst hz
  exact rn_step d rfl rfl rfl n
theorem r_idiv {x y : Int} (d : decode M.2.1 pc = .ok (.idiv, 1)) (e : pc + 1 = pc2) (hx : -2147483648 ≤ x ∧ x < 2147483648) (hy : -2147483648 ≤ y ∧ y < 2147483648) (h0 : y ≠ 0) (h1 : ¬ (x = -2147483648 ∧ y = -1)) (n : rn M pc2 ls (.int (iN (x.tdiv y)) :: st) w P) : rn M pc ls (.int (iN y) :: .int (iN x) :: st) w P := by
  subst e
  rw [← iN_div hx hy h1] at n
  refine rn_step d rfl rfl ?_ n
  show (if iN y = 0 then none else _) = _
  rw [if_neg (fun q => h0 ((iN_inj hy (by omega)).mp (q.trans iN_0)))]
  rfl
theorem r_irem {x y : Int} (d : decode M.2.1 pc = .ok (.irem, 1)) (e : pc + 1 = pc2) (hx : -2147483648 ≤ x ∧ x < 2147483648) (hy : -2147483648 ≤ y ∧ y < 2147483648) (h0 : y ≠ 0) (h1 : ¬ (x = -2147483648 ∧ y = -1)) (n : rn M pc2 ls (.int (iN (x.tmod y)) :: st) w P) : rn M pc ls (.int (iN y) :: .int (iN x) :: st) w P := by
  subst e
  rw [← iN_rem hx hy h1] at n
  refine rn_step d rfl rfl ?_ n
  show (if iN y = 0 then none else _) = _
  rw [if_neg (fun q => h0 ((iN_inj hy (by omega)).mp (q.trans iN_0)))]
  rfl
theorem r_ineg {x : Int} (d : decode M.2.1 pc = .ok (.ineg, 1)) (e : pc + 1 = pc2) (n : rn M pc2 ls (.int (iN (-x)) :: st) w P) : rn M pc ls (.int (iN x) :: st) w P := by
  subst e
  rw [← iN_neg] at n
  exact rn_step d rfl rfl rfl n
theorem r_i2l {x : Int} (d : decode M.2.1 pc = .ok (.i2l, 1)) (e : pc + 1 = pc2) (hx : -2147483648 ≤ x ∧ x < 2147483648) (n : rn M pc2 ls (.long (lZ x) :: st) w P) : rn M pc ls (.int (iN x) :: st) w P := by
  subst e
  rw [← iN_i2l hx] at n
  exact rn_step d rfl rfl rfl n
theorem r_i2c {x z : Int32} (d : decode M.2.1 pc = .ok (.i2c, 1)) (e : pc + 1 = pc2) (hz : (x.toUInt32 % 65536).toInt32 = z) (n : rn M pc2 ls (.int z :: st) w P) : rn M pc ls (.int x :: st) w P := by
  subst e
  subst hz
  exact rn_step d rfl rfl rfl n
theorem r_lsub {x y : Int} (d : decode M.2.1 pc = .ok (.lsub, 1)) (e : pc + 1 = pc2) (n : rn M pc2 ls (.long (lZ (x - y)) :: st) w P) : rn M pc ls (.long (lZ y) :: .long (lZ x) :: st) w P := by
  subst e
  rw [← lZ_sub] at n
  exact rn_step d rfl rfl rfl n
theorem r_lmul {x y : Int} (d : decode M.2.1 pc = .ok (.lmul, 1)) (e : pc + 1 = pc2) (n : rn M pc2 ls (.long (lZ (x * y)) :: st) w P) : rn M pc ls (.long (lZ y) :: .long (lZ x) :: st) w P := by
  subst e
  rw [← lZ_mul] at n
  exact rn_step d rfl rfl rfl n
theorem r_lcmp {x y : Int} (d : decode M.2.1 pc = .ok (.lcmp, 1)) (e : pc + 1 = pc2) (hx : -9223372036854775808 ≤ x ∧ x < 9223372036854775808) (hy : -9223372036854775808 ≤ y ∧ y < 9223372036854775808) (n : rn M pc2 ls (.int (iN (cz x y)) :: st) w P) : rn M pc ls (.long (lZ y) :: .long (lZ x) :: st) w P := by
  subst e
  rw [← lZ_cmp hx hy] at n
  exact rn_step d rfl rfl rfl n
theorem r_icmp_eq {x y off : Int} {tgt : Nat} (d : decode M.2.1 pc = .ok (.if_icmp .eq off, 3)) (e : pc + 3 = pc2) (et : (pc : Int) + off = (tgt : Int)) (hx : -2147483648 ≤ x ∧ x < 2147483648) (hy : -2147483648 ≤ y ∧ y < 2147483648) (kt : x = y → rn M tgt ls st w P) (kf : ¬ (x = y) → rn M pc2 ls st w P) : rn M pc ls (.int (iN y) :: .int (iN x) :: st) w P := by
  subst e
  have h0 : av_step M (.if_icmp .eq off) 3 pc ls (.int (iN y) :: .int (iN x) :: st) w = some (if iN x = iN y then tgt else pc + 3, ls, st, w) := by
    show av_if2 (fun x y => x = y) off 3 pc ls (.int (iN y) :: .int (iN x) :: st) w = _
    unfold av_if2 av_ifs
    dsimp only
    rw [if_pos rfl]
    unfold av_tgt
    rw [if_pos (by omega), et]
    rfl
  by_cases h : x = y
  · rw [if_pos ((iN_inj hx hy).mpr h)] at h0
    exact rn_step d rfl rfl h0 (kt h)
  · rw [if_neg (fun q => h ((iN_inj hx hy).mp q))] at h0
    exact rn_step d rfl rfl h0 (kf h)
theorem r_icmp_ne {x y off : Int} {tgt : Nat} (d : decode M.2.1 pc = .ok (.if_icmp .ne off, 3)) (e : pc + 3 = pc2) (et : (pc : Int) + off = (tgt : Int)) (hx : -2147483648 ≤ x ∧ x < 2147483648) (hy : -2147483648 ≤ y ∧ y < 2147483648) (kt : ¬ x = y → rn M tgt ls st w P) (kf : x = y → rn M pc2 ls st w P) : rn M pc ls (.int (iN y) :: .int (iN x) :: st) w P := by
  subst e
  have h0 : av_step M (.if_icmp .ne off) 3 pc ls (.int (iN y) :: .int (iN x) :: st) w = some (if ¬ iN x = iN y then tgt else pc + 3, ls, st, w) := by
    show av_if2 (fun x y => ¬ x = y) off 3 pc ls (.int (iN y) :: .int (iN x) :: st) w = _
    unfold av_if2 av_ifs
    dsimp only
    rw [if_pos rfl]
    unfold av_tgt
    rw [if_pos (by omega), et]
    rfl
  by_cases h : ¬ x = y
  · rw [if_pos (fun q => h ((iN_inj hx hy).mp q))] at h0
    exact rn_step d rfl rfl h0 (kt h)
  · rw [if_neg (fun q => q ((iN_inj hx hy).mpr (Decidable.not_not.mp h)))] at h0
    exact rn_step d rfl rfl h0 (kf (Decidable.not_not.mp h))
theorem r_icmp_lt {x y off : Int} {tgt : Nat} (d : decode M.2.1 pc = .ok (.if_icmp .lt off, 3)) (e : pc + 3 = pc2) (et : (pc : Int) + off = (tgt : Int)) (hx : -2147483648 ≤ x ∧ x < 2147483648) (hy : -2147483648 ≤ y ∧ y < 2147483648) (kt : x < y → rn M tgt ls st w P) (kf : ¬ (x < y) → rn M pc2 ls st w P) : rn M pc ls (.int (iN y) :: .int (iN x) :: st) w P := by
  subst e
  have h0 : av_step M (.if_icmp .lt off) 3 pc ls (.int (iN y) :: .int (iN x) :: st) w = some (if iN x < iN y then tgt else pc + 3, ls, st, w) := by
    show av_if2 (fun x y => x < y) off 3 pc ls (.int (iN y) :: .int (iN x) :: st) w = _
    unfold av_if2 av_ifs
    dsimp only
    rw [if_pos rfl]
    unfold av_tgt
    rw [if_pos (by omega), et]
    rfl
  by_cases h : x < y
  · rw [if_pos ((iN_lt hx hy).mpr h)] at h0
    exact rn_step d rfl rfl h0 (kt h)
  · rw [if_neg (fun q => h ((iN_lt hx hy).mp q))] at h0
    exact rn_step d rfl rfl h0 (kf h)
theorem r_icmp_ge {x y off : Int} {tgt : Nat} (d : decode M.2.1 pc = .ok (.if_icmp .ge off, 3)) (e : pc + 3 = pc2) (et : (pc : Int) + off = (tgt : Int)) (hx : -2147483648 ≤ x ∧ x < 2147483648) (hy : -2147483648 ≤ y ∧ y < 2147483648) (kt : y ≤ x → rn M tgt ls st w P) (kf : ¬ (y ≤ x) → rn M pc2 ls st w P) : rn M pc ls (.int (iN y) :: .int (iN x) :: st) w P := by
  subst e
  have h0 : av_step M (.if_icmp .ge off) 3 pc ls (.int (iN y) :: .int (iN x) :: st) w = some (if iN y ≤ iN x then tgt else pc + 3, ls, st, w) := by
    show av_if2 (fun x y => y ≤ x) off 3 pc ls (.int (iN y) :: .int (iN x) :: st) w = _
    unfold av_if2 av_ifs
    dsimp only
    rw [if_pos rfl]
    unfold av_tgt
    rw [if_pos (by omega), et]
    rfl
  by_cases h : y ≤ x
  · rw [if_pos ((iN_le hy hx).mpr h)] at h0
    exact rn_step d rfl rfl h0 (kt h)
  · rw [if_neg (fun q => h ((iN_le hy hx).mp q))] at h0
    exact rn_step d rfl rfl h0 (kf h)
theorem r_icmp_gt {x y off : Int} {tgt : Nat} (d : decode M.2.1 pc = .ok (.if_icmp .gt off, 3)) (e : pc + 3 = pc2) (et : (pc : Int) + off = (tgt : Int)) (hx : -2147483648 ≤ x ∧ x < 2147483648) (hy : -2147483648 ≤ y ∧ y < 2147483648) (kt : y < x → rn M tgt ls st w P) (kf : ¬ (y < x) → rn M pc2 ls st w P) : rn M pc ls (.int (iN y) :: .int (iN x) :: st) w P := by
  subst e
  have h0 : av_step M (.if_icmp .gt off) 3 pc ls (.int (iN y) :: .int (iN x) :: st) w = some (if iN y < iN x then tgt else pc + 3, ls, st, w) := by
    show av_if2 (fun x y => y < x) off 3 pc ls (.int (iN y) :: .int (iN x) :: st) w = _
    unfold av_if2 av_ifs
    dsimp only
    rw [if_pos rfl]
    unfold av_tgt
    rw [if_pos (by omega), et]
    rfl
  by_cases h : y < x
  · rw [if_pos ((iN_lt hy hx).mpr h)] at h0
    exact rn_step d rfl rfl h0 (kt h)
  · rw [if_neg (fun q => h ((iN_lt hy hx).mp q))] at h0
    exact rn_step d rfl rfl h0 (kf h)
theorem r_icmp_le {x y off : Int} {tgt : Nat} (d : decode M.2.1 pc = .ok (.if_icmp .le off, 3)) (e : pc + 3 = pc2) (et : (pc : Int) + off = (tgt : Int)) (hx : -2147483648 ≤ x ∧ x < 2147483648) (hy : -2147483648 ≤ y ∧ y < 2147483648) (kt : x ≤ y → rn M tgt ls st w P) (kf : ¬ (x ≤ y) → rn M pc2 ls st w P) : rn M pc ls (.int (iN y) :: .int (iN x) :: st) w P := by
  subst e
  have h0 : av_step M (.if_icmp .le off) 3 pc ls (.int (iN y) :: .int (iN x) :: st) w = some (if iN x ≤ iN y then tgt else pc + 3, ls, st, w) := by
    show av_if2 (fun x y => x ≤ y) off 3 pc ls (.int (iN y) :: .int (iN x) :: st) w = _
    unfold av_if2 av_ifs
    dsimp only
    rw [if_pos rfl]
    unfold av_tgt
    rw [if_pos (by omega), et]
    rfl
  by_cases h : x ≤ y
  · rw [if_pos ((iN_le hx hy).mpr h)] at h0
    exact rn_step d rfl rfl h0 (kt h)
  · rw [if_neg (fun q => h ((iN_le hx hy).mp q))] at h0
    exact rn_step d rfl rfl h0 (kf h)
theorem r_if_eq {x off : Int} {tgt : Nat} (d : decode M.2.1 pc = .ok (.ifCond .eq off, 3)) (e : pc + 3 = pc2) (et : (pc : Int) + off = (tgt : Int)) (hx : -2147483648 ≤ x ∧ x < 2147483648) (kt : x = 0 → rn M tgt ls st w P) (kf : ¬ (x = 0) → rn M pc2 ls st w P) : rn M pc ls (.int (iN x) :: st) w P := by
  subst e
  have h0 : av_step M (.ifCond .eq off) 3 pc ls (.int (iN x) :: st) w = some (if iN x = 0 then tgt else pc + 3, ls, st, w) := by
    show av_if1 (fun x => x = 0) off 3 pc ls (.int (iN x) :: st) w = _
    unfold av_if1 av_ifs
    dsimp only
    rw [if_pos rfl]
    unfold av_tgt
    rw [if_pos (by omega), et]
    rfl
  by_cases h : x = 0
  · rw [if_pos (show iN x = 0 from ((iN_inj hx (by omega)).mpr h : iN x = iN 0))] at h0
    exact rn_step d rfl rfl h0 (kt h)
  · rw [if_neg (show ¬ (iN x = 0) from (fun q => h ((iN_inj hx (by omega)).mp (q.trans iN_0))))] at h0
    exact rn_step d rfl rfl h0 (kf h)
theorem r_if_ne {x off : Int} {tgt : Nat} (d : decode M.2.1 pc = .ok (.ifCond .ne off, 3)) (e : pc + 3 = pc2) (et : (pc : Int) + off = (tgt : Int)) (hx : -2147483648 ≤ x ∧ x < 2147483648) (kt : ¬ x = 0 → rn M tgt ls st w P) (kf : x = 0 → rn M pc2 ls st w P) : rn M pc ls (.int (iN x) :: st) w P := by
  subst e
  have h0 : av_step M (.ifCond .ne off) 3 pc ls (.int (iN x) :: st) w = some (if ¬ iN x = 0 then tgt else pc + 3, ls, st, w) := by
    show av_if1 (fun x => ¬ x = 0) off 3 pc ls (.int (iN x) :: st) w = _
    unfold av_if1 av_ifs
    dsimp only
    rw [if_pos rfl]
    unfold av_tgt
    rw [if_pos (by omega), et]
    rfl
  by_cases h : ¬ x = 0
  · rw [if_pos (show ¬ iN x = 0 from (fun q => h ((iN_inj hx (by omega)).mp (q.trans iN_0))))] at h0
    exact rn_step d rfl rfl h0 (kt h)
  · rw [if_neg (show ¬ (¬ iN x = 0) from (fun q => q ((iN_inj hx (by omega)).mpr (Decidable.not_not.mp h) : iN x = iN 0)))] at h0
    exact rn_step d rfl rfl h0 (kf (Decidable.not_not.mp h))
theorem r_if_lt {x off : Int} {tgt : Nat} (d : decode M.2.1 pc = .ok (.ifCond .lt off, 3)) (e : pc + 3 = pc2) (et : (pc : Int) + off = (tgt : Int)) (hx : -2147483648 ≤ x ∧ x < 2147483648) (kt : x < 0 → rn M tgt ls st w P) (kf : ¬ (x < 0) → rn M pc2 ls st w P) : rn M pc ls (.int (iN x) :: st) w P := by
  subst e
  have h0 : av_step M (.ifCond .lt off) 3 pc ls (.int (iN x) :: st) w = some (if iN x < 0 then tgt else pc + 3, ls, st, w) := by
    show av_if1 (fun x => x < 0) off 3 pc ls (.int (iN x) :: st) w = _
    unfold av_if1 av_ifs
    dsimp only
    rw [if_pos rfl]
    unfold av_tgt
    rw [if_pos (by omega), et]
    rfl
  by_cases h : x < 0
  · rw [if_pos (show iN x < 0 from ((iN_lt hx (by omega)).mpr h : iN x < iN 0))] at h0
    exact rn_step d rfl rfl h0 (kt h)
  · rw [if_neg (show ¬ (iN x < 0) from (fun q => h ((iN_lt (y := 0) hx (by omega)).mp q)))] at h0
    exact rn_step d rfl rfl h0 (kf h)
theorem r_if_ge {x off : Int} {tgt : Nat} (d : decode M.2.1 pc = .ok (.ifCond .ge off, 3)) (e : pc + 3 = pc2) (et : (pc : Int) + off = (tgt : Int)) (hx : -2147483648 ≤ x ∧ x < 2147483648) (kt : 0 ≤ x → rn M tgt ls st w P) (kf : ¬ (0 ≤ x) → rn M pc2 ls st w P) : rn M pc ls (.int (iN x) :: st) w P := by
  subst e
  have h0 : av_step M (.ifCond .ge off) 3 pc ls (.int (iN x) :: st) w = some (if 0 ≤ iN x then tgt else pc + 3, ls, st, w) := by
    show av_if1 (fun x => 0 ≤ x) off 3 pc ls (.int (iN x) :: st) w = _
    unfold av_if1 av_ifs
    dsimp only
    rw [if_pos rfl]
    unfold av_tgt
    rw [if_pos (by omega), et]
    rfl
  by_cases h : 0 ≤ x
  · rw [if_pos (show 0 ≤ iN x from ((iN_le (by omega) hx).mpr h : iN 0 ≤ iN x))] at h0
    exact rn_step d rfl rfl h0 (kt h)
  · rw [if_neg (show ¬ (0 ≤ iN x) from (fun q => h ((iN_le (x := 0) (by omega) hx).mp q)))] at h0
    exact rn_step d rfl rfl h0 (kf h)
theorem r_if_gt {x off : Int} {tgt : Nat} (d : decode M.2.1 pc = .ok (.ifCond .gt off, 3)) (e : pc + 3 = pc2) (et : (pc : Int) + off = (tgt : Int)) (hx : -2147483648 ≤ x ∧ x < 2147483648) (kt : 0 < x → rn M tgt ls st w P) (kf : ¬ (0 < x) → rn M pc2 ls st w P) : rn M pc ls (.int (iN x) :: st) w P := by
  subst e
  have h0 : av_step M (.ifCond .gt off) 3 pc ls (.int (iN x) :: st) w = some (if 0 < iN x then tgt else pc + 3, ls, st, w) := by
    show av_if1 (fun x => 0 < x) off 3 pc ls (.int (iN x) :: st) w = _
    unfold av_if1 av_ifs
    dsimp only
    rw [if_pos rfl]
    unfold av_tgt
    rw [if_pos (by omega), et]
    rfl
  by_cases h : 0 < x
  · rw [if_pos (show 0 < iN x from ((iN_lt (by omega) hx).mpr h : iN 0 < iN x))] at h0
    exact rn_step d rfl rfl h0 (kt h)
  · rw [if_neg (show ¬ (0 < iN x) from (fun q => h ((iN_lt (x := 0) (by omega) hx).mp q)))] at h0
    exact rn_step d rfl rfl h0 (kf h)
theorem r_if_le {x off : Int} {tgt : Nat} (d : decode M.2.1 pc = .ok (.ifCond .le off, 3)) (e : pc + 3 = pc2) (et : (pc : Int) + off = (tgt : Int)) (hx : -2147483648 ≤ x ∧ x < 2147483648) (kt : x ≤ 0 → rn M tgt ls st w P) (kf : ¬ (x ≤ 0) → rn M pc2 ls st w P) : rn M pc ls (.int (iN x) :: st) w P := by
  subst e
  have h0 : av_step M (.ifCond .le off) 3 pc ls (.int (iN x) :: st) w = some (if iN x ≤ 0 then tgt else pc + 3, ls, st, w) := by
    show av_if1 (fun x => x ≤ 0) off 3 pc ls (.int (iN x) :: st) w = _
    unfold av_if1 av_ifs
    dsimp only
    rw [if_pos rfl]
    unfold av_tgt
    rw [if_pos (by omega), et]
    rfl
  by_cases h : x ≤ 0
  · rw [if_pos (show iN x ≤ 0 from ((iN_le hx (by omega)).mpr h : iN x ≤ iN 0))] at h0
    exact rn_step d rfl rfl h0 (kt h)
  · rw [if_neg (show ¬ (iN x ≤ 0) from (fun q => h ((iN_le (y := 0) hx (by omega)).mp q)))] at h0
    exact rn_step d rfl rfl h0 (kf h)
theorem r_ifb_eq {c : Prop} [Decidable c] {off : Int} {tgt : Nat} (d : decode M.2.1 pc = .ok (.ifCond .eq off, 3)) (e : pc + 3 = pc2) (et : (pc : Int) + off = (tgt : Int)) (kt : ¬ c → rn M tgt ls st w P) (kf : c → rn M pc2 ls st w P) : rn M pc ls (.int (iN (bz c)) :: st) w P := by
  have hb : -2147483648 ≤ bz c ∧ bz c < 2147483648 := by unfold bz; split <;> omega
  refine r_if_eq d e et hb (fun h => kt ?_) (fun h => kf ?_)
  · unfold bz at h
    split at h <;> simp_all
  · unfold bz at h
    split at h <;> simp_all
theorem r_ifb_ne {c : Prop} [Decidable c] {off : Int} {tgt : Nat} (d : decode M.2.1 pc = .ok (.ifCond .ne off, 3)) (e : pc + 3 = pc2) (et : (pc : Int) + off = (tgt : Int)) (kt : c → rn M tgt ls st w P) (kf : ¬ c → rn M pc2 ls st w P) : rn M pc ls (.int (iN (bz c)) :: st) w P := by
  have hb : -2147483648 ≤ bz c ∧ bz c < 2147483648 := by unfold bz; split <;> omega
  refine r_if_ne d e et hb (fun h => kt ?_) (fun h => kf ?_)
  · unfold bz at h
    split at h <;> simp_all
  · unfold bz at h
    split at h <;> simp_all
theorem r_goto {off : Int} {tgt : Nat} (d : decode M.2.1 pc = .ok (.goto off, 3)) (et : (pc : Int) + off = (tgt : Int)) (n : rn M tgt ls st w P) : rn M pc ls st w P := by
  refine rn_step d rfl rfl ?_ n
  show (if 3 = 3 then av_tgt pc off (fun t => some (t, ls, st, w)) else none) = _
  rw [if_pos rfl]
  unfold av_tgt
  rw [if_pos (by omega), et]
  rfl
theorem r_tab {dflt lo hi : Int} {offs : Array Int} {x : Int} (d : decode M.2.1 pc = .ok (.tableswitch dflt lo hi offs, len)) (hx : -2147483648 ≤ x ∧ x < 2147483648)
    (kd : x < lo ∨ hi < x → ∃ tgt : Nat, (pc : Int) + dflt = (tgt : Int) ∧ rn M tgt ls st w P) (kk : ¬ (x < lo ∨ hi < x) → ∃ (off : Int) (tgt : Nat), offs[(x - lo).toNat]? = some off ∧ (pc : Int) + off = (tgt : Int) ∧ rn M tgt ls st w P) : rn M pc ls (.int (iN x) :: st) w P := by
  by_cases h : x < lo ∨ hi < x
  · obtain ⟨tgt, et, n⟩ := kd h
    refine rn_step d rfl rfl ?_ n
    show (if (iN x).toInt < lo ∨ hi < (iN x).toInt then av_tgt pc dflt _ else _) = _
    rw [iN_toInt hx, if_pos h]
    unfold av_tgt
    rw [if_pos (by omega), et]
    rfl
  · obtain ⟨off, tgt, ho, et, n⟩ := kk h
    refine rn_step d rfl rfl ?_ n
    show (if (iN x).toInt < lo ∨ hi < (iN x).toInt then av_tgt pc dflt _ else _) = _
    rw [iN_toInt hx, if_neg h, ho]
    show av_tgt pc off _ = _
    unfold av_tgt
    rw [if_pos (by omega), et]
    rfl
theorem r_getf {k ci kf a : Nat} {hh : String} {fs : List Value} {v : Value} (d : decode M.2.1 pc = .ok (.getfield k, 3)) (e : pc + 3 = pc2) (hf : av_fld M.2.2.2.2.1 k = some (ci, kf, hh)) (ha : a < w.1) (hw : w.2.2 a = .inr (ci, fs)) (hv : fs[kf]? = some v) (n : rn M pc2 ls (v :: st) w P) : rn M pc ls (.ref a :: st) w P := by
  subst e
  refine rn_step d rfl rfl ?_ n
  show av_getf M.2.2.2.2.1 k 3 pc ls (.ref a :: st) w = _
  unfold av_getf
  dsimp only
  rw [if_pos ⟨ha, rfl⟩, hf]
  dsimp only
  rw [hw]
  dsimp only
  rw [if_pos rfl, hv]
theorem r_putf {k ci kf a : Nat} {hh : String} {fs fs2 : List Value} {v : Value} (d : decode M.2.1 pc = .ok (.putfield k, 3)) (e : pc + 3 = pc2) (hf : av_fld M.2.2.2.2.1 k = some (ci, kf, hh)) (ha : a < w.1) (hw : w.2.2 a = .inr (ci, fs)) (hl : kf < fs.length) (hfit : av_fit (av_ty ci kf) v = true) (hfin : (av_T ci kf).2.2.2 = false) (hs : fs.set kf v = fs2) (n : rn M pc2 ls st (wst w a (.inr (ci, fs2))) P) : rn M pc ls (v :: .ref a :: st) w P := by
  subst e
  subst hs
  refine rn_step d rfl rfl ?_ n
  show av_putf M.2.2.2.2.1 (av_isInit M) k 3 pc ls (v :: .ref a :: st) w = _
  unfold av_putf
  dsimp only
  rw [if_pos ⟨ha, rfl⟩, hf]
  dsimp only
  rw [hw]
  dsimp only
  rw [if_pos ⟨rfl, hl, hfit, Or.inl hfin⟩]
  rfl
theorem r_iald {a n0 : Nat} {c : Nat → Int} {x : Int} (d : decode M.2.1 pc = .ok (.iaload, 1)) (e : pc + 1 = pc2) (h99 : M.2.2.2.2.1 ≠ 99) (ha : a < w.1) (hw : w.2.2 a = arO n0 c) (h0 : 0 ≤ x) (hx : x < n0) (hn : n0 ≤ 1000) (n : rn M pc2 ls (.int (iN (c x.toNat)) :: st) w P) : rn M pc ls (.int (iN x) :: .ref a :: st) w P := by
  subst e
  refine rn_step d rfl rfl ?_ n
  show (if M.2.2.2.2.1 = 99 then av_sald 1 pc ls (.int (iN x) :: .ref a :: st) w else av_xald 0 1 pc ls (.int (iN x) :: .ref a :: st) w) = _
  rw [if_neg h99]
  unfold av_xald
  dsimp only
  rw [hw]
  unfold arO
  dsimp only
  rw [if_pos ⟨ha, rfl, rfl, av_inr_z h0 hx hn⟩, iN_clamp (by omega)]
  rfl
theorem r_ialk {a n0 k : Nat} {c : Nat → Int} {x : Int} (d : decode M.2.1 pc = .ok (.iaload, 1)) (e : pc + 1 = pc2) (h99 : M.2.2.2.2.1 ≠ 99) (ha : a < w.1) (hw : w.2.2 a = arO n0 c) (h0 : 0 ≤ x) (hx : x < n0) (hn : n0 ≤ 1000) (hk : x.toNat = k) (n : rn M pc2 ls (.int (iN (c k)) :: st) w P) : rn M pc ls (.int (iN x) :: .ref a :: st) w P := by
  subst hk
  exact r_iald d e h99 ha hw h0 hx hn n
theorem r_iast {a n0 : Nat} {c : Nat → Int} {x y : Int} (d : decode M.2.1 pc = .ok (.iastore, 1)) (e : pc + 1 = pc2) (ha : a < w.1) (hw : w.2.2 a = arO n0 c) (h0 : 0 ≤ x) (hx : x < n0) (hn : n0 ≤ 1000) (n : rn M pc2 ls st (wst w a (arO n0 (updZ c x.toNat y))) P) : rn M pc ls (.int (iN y) :: .int (iN x) :: .ref a :: st) w P := by
  subst e
  refine rn_step d rfl rfl ?_ n
  show av_xast (fun x => x) 0 1 pc ls (.int (iN y) :: .int (iN x) :: .ref a :: st) w = _
  unfold av_xast
  dsimp only
  rw [hw]
  unfold arO
  dsimp only
  rw [if_pos ⟨ha, rfl, rfl, av_inr_z h0 hx hn⟩, iN_clamp (by omega), upd_iF]
  rfl
theorem r_alen {a n0 : Nat} {c : Nat → Int} (d : decode M.2.1 pc = .ok (.arraylength, 1)) (e : pc + 1 = pc2) (h99 : M.2.2.2.2.1 ≠ 99) (ha : a < w.1) (hw : w.2.2 a = arO n0 c) (n : rn M pc2 ls (.int (iN n0) :: st) w P) : rn M pc ls (.ref a :: st) w P := by
  subst e
  refine rn_step d rfl rfl ?_ n
  show (if M.2.2.2.2.1 = 99 then av_slen 1 pc ls (.ref a :: st) w else av_alen 1 pc ls (.ref a :: st) w) = _
  rw [if_neg h99]
  unfold av_alen
  dsimp only
  rw [hw]
  unfold arO
  dsimp only
  rw [if_pos ⟨ha, rfl, by decide⟩, show Int32.ofNat n0 = iN (n0 : Int) from (Int32.ofInt_eq_ofNat).symm]
def chO (n : Nat) (c : Nat → Int) : av_E := .inl (1, n, .inl (iF c))
theorem r_cald {a n0 : Nat} {c : Nat → Int} {x : Int} (d : decode M.2.1 pc = .ok (.caload, 1)) (e : pc + 1 = pc2) (ha : a < w.1) (hw : w.2.2 a = chO n0 c) (h0 : 0 ≤ x) (hx : x < n0) (hn : n0 ≤ 1000) (n : rn M pc2 ls (.int (iN (c x.toNat)) :: st) w P) : rn M pc ls (.int (iN x) :: .ref a :: st) w P := by
  subst e
  refine rn_step d rfl rfl ?_ n
  show av_xald 1 1 pc ls (.int (iN x) :: .ref a :: st) w = _
  unfold av_xald
  dsimp only
  rw [hw]
  unfold chO
  dsimp only
  rw [if_pos ⟨ha, rfl, rfl, av_inr_z h0 hx hn⟩, iN_clamp (by omega)]
  rfl
theorem r_cast {a n0 : Nat} {c : Nat → Int} {x y : Int} (d : decode M.2.1 pc = .ok (.castore, 1)) (e : pc + 1 = pc2) (ha : a < w.1) (hw : w.2.2 a = chO n0 c) (h0 : 0 ≤ x) (hx : x < n0) (hn : n0 ≤ 1000) (hy : vp_nar .char (iN y) = iN y) (n : rn M pc2 ls st (wst w a (chO n0 (updZ c x.toNat y))) P) : rn M pc ls (.int (iN y) :: .int (iN x) :: .ref a :: st) w P := by
  subst e
  refine rn_step d rfl rfl ?_ n
  show av_xast (vp_nar .char) 1 1 pc ls (.int (iN y) :: .int (iN x) :: .ref a :: st) w = _
  unfold av_xast
  dsimp only
  rw [hw]
  unfold chO
  dsimp only
  rw [if_pos ⟨ha, rfl, rfl, av_inr_z h0 hx hn⟩, iN_clamp (by omega), hy, upd_iF]
  rfl
def rfO (n : Nat) (f : Nat → Option Nat) : av_E := .inl (2, n, .inr (.inr (.inr (.inr f))))
theorem r_aald {a n0 r : Nat} {f : Nat → Option Nat} {x : Int} (d : decode M.2.1 pc = .ok (.aaload, 1)) (e : pc + 1 = pc2) (ha : a < w.1) (hw : w.2.2 a = rfO n0 f) (h0 : 0 ≤ x) (hx : x < n0) (hn : n0 ≤ 1000) (hr : f x.toNat = some r) (n : rn M pc2 ls (.ref r :: st) w P) : rn M pc ls (.int (iN x) :: .ref a :: st) w P := by
  subst e
  refine rn_step d rfl rfl ?_ n
  show av_rald 1 pc ls (.int (iN x) :: .ref a :: st) w = _
  unfold av_rald
  dsimp only
  rw [hw]
  unfold rfO
  dsimp only
  rw [if_pos ⟨ha, rfl, rfl, av_inr_z h0 hx hn⟩, iN_clamp (by omega), hr]
theorem r_aast {a n0 r : Nat} {f : Nat → Option Nat} {x : Int} {fs : List Value} (d : decode M.2.1 pc = .ok (.aastore, 1)) (e : pc + 1 = pc2) (ha : a < w.1) (hw : w.2.2 a = rfO n0 f) (h0 : 0 ≤ x) (hx : x < n0) (hn : n0 ≤ 1000) (hr : r < w.1) (hr2 : w.2.2 r = .inr (0, fs)) (n : rn M pc2 ls st (wst w a (rfO n0 (va_up f x.toNat (some r)))) P) : rn M pc ls (.ref r :: .int (iN x) :: .ref a :: st) w P := by
  subst e
  refine rn_step d rfl rfl ?_ n
  show av_rast 1 pc ls (.ref r :: .int (iN x) :: .ref a :: st) w = _
  unfold av_rast
  dsimp only
  rw [hw, hr2]
  unfold rfO
  dsimp only
  rw [if_pos ⟨⟨ha, hr⟩, rfl, rfl, rfl, av_inr_z h0 hx hn⟩, iN_clamp (by omega)]
  rfl
theorem r_dup {v : Value} (d : decode M.2.1 pc = .ok (.dup, 1)) (e : pc + 1 = pc2) (hv : v.category = 1) (n : rn M pc2 ls (v :: v :: st) w P) : rn M pc ls (v :: st) w P := by
  subst e
  refine rn_step d rfl rfl ?_ n
  show (if 1 = 1 ∧ v.category = 1 then _ else none) = _
  rw [if_pos ⟨rfl, hv⟩]
theorem r_pop {v : Value} (d : decode M.2.1 pc = .ok (.pop, 1)) (e : pc + 1 = pc2) (hv : v.category = 1) (n : rn M pc2 ls st w P) : rn M pc ls (v :: st) w P := by
  subst e
  refine rn_step d rfl rfl ?_ n
  show (if 1 = 1 ∧ v.category = 1 then _ else none) = _
  rw [if_pos ⟨rfl, hv⟩]
theorem r_dup2 {v u : Value} (d : decode M.2.1 pc = .ok (.dup2, 1)) (e : pc + 1 = pc2) (hv : v.category = 1) (hu : u.category = 1) (n : rn M pc2 ls (v :: u :: v :: u :: st) w P) : rn M pc ls (v :: u :: st) w P := by
  subst e
  refine rn_step d rfl rfl ?_ n
  show (if 1 = 1 ∧ v.category = 1 ∧ u.category = 1 then _ else none) = _
  rw [if_pos ⟨rfl, hv, hu⟩]
theorem r_ifnull {r : Nat} {off : Int} (d : decode M.2.1 pc = .ok (.ifnull off, 3)) (e : pc + 3 = pc2) (n : rn M pc2 ls st w P) : rn M pc ls (.ref r :: st) w P := by
  subst e
  exact rn_step d rfl rfl rfl n
theorem r_mm {k : Nat} {b : Bool} {x y : Int} (d : decode M.2.1 pc = .ok (.invokestatic k, 3)) (e : pc + 3 = pc2) (hres : av_res M.2.2.2.2.1 k = none) (hm : av_mm M.2.2.2.2.1 k = some b) (h1 : 1 ≤ M.2.2.2.2.2.1) (hs : (st.map (fun v => v.category)).sum ≤ 8) (hx : -2147483648 ≤ x ∧ x < 2147483648) (hy : -2147483648 ≤ y ∧ y < 2147483648) (n : rn M pc2 ls (.int (iN (if b then max x y else min x y)) :: st) w P) : rn M pc ls (.int (iN y) :: .int (iN x) :: st) w P := by
  subst e
  have h2 : av_inv M (.invokestatic k) 3 (.int (iN y) :: .int (iN x) :: st) = none := by
    show av_cut M 3 k [2, 3] true _ = none
    unfold av_cut
    rw [hres]
  refine rn_step d rfl h2 ?_ n
  show av_mmx M.2.2.2.2.1 k M.2.2.2.2.2.1 3 pc ls (.int (iN y) :: .int (iN x) :: st) w = _
  unfold av_mmx
  dsimp only
  rw [hm]
  dsimp only
  rw [if_pos ⟨rfl, h1, hs⟩]
  have q1 : (if iN x < iN y then iN y else iN x) = iN (max x y) := by
    by_cases h : x < y
    · rw [if_pos ((iN_lt hx hy).mpr h), Int.max_eq_right (by omega)]
    · rw [if_neg (fun q => h ((iN_lt hx hy).mp q)), Int.max_eq_left (by omega)]
  have q2 : (if iN y < iN x then iN y else iN x) = iN (min x y) := by
    by_cases h : y < x
    · rw [if_pos ((iN_lt hy hx).mpr h), Int.min_eq_right (by omega)]
    · rw [if_neg (fun q => h ((iN_lt hy hx).mp q)), Int.min_eq_left (by omega)]
  cases b
  · simp only [q2]
    rfl
  · simp only [q1]
    rfl
theorem r_ret {v : Int32} (d : decode M.2.1 pc = .ok (.ireturn, 1)) (hr : M.2.2.2.1 = some .int) (n : P (some (.int v)) w) : rn M pc ls [.int v] w P := by
  refine rn_ret d ?_ n
  show (match M.2.2.2.1 with | some ty => _ | none => none) = _
  rw [hr]
  rfl
theorem r_retb {z : Int} (d : decode M.2.1 pc = .ok (.ireturn, 1)) (hr : M.2.2.2.1 = some .boolean) (hz : z = 0 ∨ z = 1) (n : P (some (.int (iN z))) w) : rn M pc ls [.int (iN z)] w P := by
  have hf : av_fit .boolean (.int (iN z)) = true := by
    rcases hz with rfl | rfl
    · decide +kernel
    · decide +kernel
  refine rn_ret d ?_ n
  show (match M.2.2.2.1 with | some ty => (if 1 = 1 ∧ av_fit ty (.int (iN z)) = true then some (some (Value.int (iN z))) else none) | none => none) = _
  rw [hr]
  exact if_pos ⟨rfl, hf⟩
theorem r_retc {z : Int} (d : decode M.2.1 pc = .ok (.ireturn, 1)) (hr : M.2.2.2.1 = some .char) (hz : 0 ≤ z ∧ z ≤ 65535) (n : P (some (.int (iN z))) w) : rn M pc ls [.int (iN z)] w P := by
  have hf : av_fit .char (.int (iN z)) = true := by
    have h1 : ¬ iN z < 0 := fun q => by have := (iN_lt (y := 0) (by omega) (by omega)).mp q; omega
    have h2 : iN z ≤ 65535 := (iN_le (y := 65535) (by omega) (by omega)).mpr hz.2
    show (decide (¬ iN z < 0) && decide (iN z ≤ 65535)) = true
    rw [decide_eq_true h1, decide_eq_true h2]
    rfl
  refine rn_ret d ?_ n
  show (match M.2.2.2.1 with | some ty => (if 1 = 1 ∧ av_fit ty (.int (iN z)) = true then some (some (Value.int (iN z))) else none) | none => none) = _
  rw [hr]
  exact if_pos ⟨rfl, hf⟩
theorem r_retv (d : decode M.2.1 pc = .ok (.return_, 1)) (hr : M.2.2.2.1 = none) (n : P none w) : rn M pc ls [] w P := by
  refine rn_ret d ?_ n
  show (if 1 = 1 ∧ M.2.2.2.1 = none then _ else none) = _
  rw [if_pos ⟨rfl, hr⟩]
theorem r_reta {a : Nat} {C : String} (d : decode M.2.1 pc = .ok (.areturn, 1)) (hr : M.2.2.2.1 = some (.object C)) (n : P (some (.ref a)) w) : rn M pc ls [.ref a] w P := by
  refine rn_ret d ?_ n
  show (match M.2.2.2.1 with | some ty => _ | none => none) = _
  rw [hr]
  rfl
theorem r_calls_0  {idx k : Nat} {P2 : Option Value → av_W → Prop} (d : decode M.2.1 pc = .ok (.invokestatic idx, 3)) (e : pc + 3 = pc2) (hr : av_res M.2.2.2.2.1 idx = some (k, M2)) (hk : (k == 2 || k == 3) = true) (hh : M2.2.2.2.2.2.1 < M.2.2.2.2.2.1) (hn : M2.2.2.2.2.2.2 = 0) (hs : (rest.map (fun v => v.category)).sum ≤ 8) (hl : (av_ents []).length ≤ M2.2.2.1) (c : cl M2 [] w P2)
    (n : ∀ r w2, P2 r w2 → w2.1 = w.1 ∧ rn M pc2 ls (r.toList ++ rest) w2 P) : rn M pc ls (rest) w P := by
  subst e
  have hk2 : k = 2 ∨ k = 3 := by simpa using hk
  refine rn_call (k := k) (M2 := M2) (args := []) (rest := rest) d rfl ?_ ?_ c (fun r w2 h => ⟨?_, (n r w2 h).2⟩)
  · show av_cut M 3 idx [2, 3] true _ = _
    unfold av_cut
    rw [hr]
    dsimp only
    rw [hn]
    rw [if_pos ⟨rfl, by simpa using hk, hh, by simp, by simpa using hs⟩]
    rfl
  · refine ⟨?_, hl⟩
    rcases hk2 with rfl | rfl <;> rfl
  · simp [av_back, (n r w2 h).1]
theorem r_callv_0  {idx k a : Nat} {fs : List Value} {P2 : Option Value → av_W → Prop} (d : decode M.2.1 pc = .ok (.invokevirtual idx, 3)) (e : pc + 3 = pc2) (hr : av_res M.2.2.2.2.1 idx = some (k, M2)) (hk : (k == 0 || k == 1) = true) (hh : M2.2.2.2.2.2.1 < M.2.2.2.2.2.1) (hn : M2.2.2.2.2.2.2 = 0) (hs : (rest.map (fun v => v.category)).sum ≤ 8) (hl : (av_ents [.ref a]).length ≤ M2.2.2.1) (ha : a < w.1) (hw : w.2.2 a = .inr (M2.2.2.2.2.1, fs)) (c : cl M2 [.ref a] w P2)
    (n : ∀ r w2, P2 r w2 → w2.1 = w.1 ∧ rn M pc2 ls (r.toList ++ rest) w2 P) : rn M pc ls (.ref a :: rest) w P := by
  subst e
  have hk2 : k = 0 ∨ k = 1 := by simpa using hk
  refine rn_call (k := k) (M2 := M2) (args := [.ref a]) (rest := rest) d rfl ?_ ?_ c (fun r w2 h => ⟨?_, (n r w2 h).2⟩)
  · show av_cut M 3 idx [0, 1] false _ = _
    unfold av_cut
    rw [hr]
    dsimp only
    rw [hn]
    rw [if_pos ⟨rfl, by simpa using hk, hh, by simp, by simpa using hs⟩]
    rfl
  · refine ⟨?_, hl⟩
    have h9 : (decide (a < w.1) && (match w.2.2 a with | .inr q => q.1 == M2.2.2.2.2.1 | _ => false)) = true := by rw [hw]; simp [ha]
    rcases hk2 with rfl | rfl <;> exact h9
  · simp [av_back, (n r w2 h).1]
theorem r_calls_1 {x0 : Value} {idx k : Nat} {P2 : Option Value → av_W → Prop} (d : decode M.2.1 pc = .ok (.invokestatic idx, 3)) (e : pc + 3 = pc2) (hr : av_res M.2.2.2.2.1 idx = some (k, M2)) (hk : (k == 2 || k == 3) = true) (hh : M2.2.2.2.2.2.1 < M.2.2.2.2.2.1) (hn : M2.2.2.2.2.2.2 = 1) (hs : (rest.map (fun v => v.category)).sum ≤ 8) (hl : (av_ents [x0]).length ≤ M2.2.2.1) (c : cl M2 [x0] w P2)
    (n : ∀ r w2, P2 r w2 → w2.1 = w.1 ∧ rn M pc2 ls (r.toList ++ rest) w2 P) : rn M pc ls (x0 :: rest) w P := by
  subst e
  have hk2 : k = 2 ∨ k = 3 := by simpa using hk
  refine rn_call (k := k) (M2 := M2) (args := [x0]) (rest := rest) d rfl ?_ ?_ c (fun r w2 h => ⟨?_, (n r w2 h).2⟩)
  · show av_cut M 3 idx [2, 3] true _ = _
    unfold av_cut
    rw [hr]
    dsimp only
    rw [hn]
    rw [if_pos ⟨rfl, by simpa using hk, hh, by simp, by simpa using hs⟩]
    rfl
  · refine ⟨?_, hl⟩
    rcases hk2 with rfl | rfl <;> rfl
  · simp [av_back, (n r w2 h).1]
theorem r_callv_1 {x0 : Value} {idx k a : Nat} {fs : List Value} {P2 : Option Value → av_W → Prop} (d : decode M.2.1 pc = .ok (.invokevirtual idx, 3)) (e : pc + 3 = pc2) (hr : av_res M.2.2.2.2.1 idx = some (k, M2)) (hk : (k == 0 || k == 1) = true) (hh : M2.2.2.2.2.2.1 < M.2.2.2.2.2.1) (hn : M2.2.2.2.2.2.2 = 1) (hs : (rest.map (fun v => v.category)).sum ≤ 8) (hl : (av_ents [.ref a, x0]).length ≤ M2.2.2.1) (ha : a < w.1) (hw : w.2.2 a = .inr (M2.2.2.2.2.1, fs)) (c : cl M2 [.ref a, x0] w P2)
    (n : ∀ r w2, P2 r w2 → w2.1 = w.1 ∧ rn M pc2 ls (r.toList ++ rest) w2 P) : rn M pc ls (x0 :: .ref a :: rest) w P := by
  subst e
  have hk2 : k = 0 ∨ k = 1 := by simpa using hk
  refine rn_call (k := k) (M2 := M2) (args := [.ref a, x0]) (rest := rest) d rfl ?_ ?_ c (fun r w2 h => ⟨?_, (n r w2 h).2⟩)
  · show av_cut M 3 idx [0, 1] false _ = _
    unfold av_cut
    rw [hr]
    dsimp only
    rw [hn]
    rw [if_pos ⟨rfl, by simpa using hk, hh, by simp, by simpa using hs⟩]
    rfl
  · refine ⟨?_, hl⟩
    have h9 : (decide (a < w.1) && (match w.2.2 a with | .inr q => q.1 == M2.2.2.2.2.1 | _ => false)) = true := by rw [hw]; simp [ha]
    rcases hk2 with rfl | rfl <;> exact h9
  · simp [av_back, (n r w2 h).1]
theorem r_calls_2 {x0 x1 : Value} {idx k : Nat} {P2 : Option Value → av_W → Prop} (d : decode M.2.1 pc = .ok (.invokestatic idx, 3)) (e : pc + 3 = pc2) (hr : av_res M.2.2.2.2.1 idx = some (k, M2)) (hk : (k == 2 || k == 3) = true) (hh : M2.2.2.2.2.2.1 < M.2.2.2.2.2.1) (hn : M2.2.2.2.2.2.2 = 2) (hs : (rest.map (fun v => v.category)).sum ≤ 8) (hl : (av_ents [x0, x1]).length ≤ M2.2.2.1) (c : cl M2 [x0, x1] w P2)
    (n : ∀ r w2, P2 r w2 → w2.1 = w.1 ∧ rn M pc2 ls (r.toList ++ rest) w2 P) : rn M pc ls (x1 :: x0 :: rest) w P := by
  subst e
  have hk2 : k = 2 ∨ k = 3 := by simpa using hk
  refine rn_call (k := k) (M2 := M2) (args := [x0, x1]) (rest := rest) d rfl ?_ ?_ c (fun r w2 h => ⟨?_, (n r w2 h).2⟩)
  · show av_cut M 3 idx [2, 3] true _ = _
    unfold av_cut
    rw [hr]
    dsimp only
    rw [hn]
    rw [if_pos ⟨rfl, by simpa using hk, hh, by simp, by simpa using hs⟩]
    rfl
  · refine ⟨?_, hl⟩
    rcases hk2 with rfl | rfl <;> rfl
  · simp [av_back, (n r w2 h).1]
theorem r_callv_2 {x0 x1 : Value} {idx k a : Nat} {fs : List Value} {P2 : Option Value → av_W → Prop} (d : decode M.2.1 pc = .ok (.invokevirtual idx, 3)) (e : pc + 3 = pc2) (hr : av_res M.2.2.2.2.1 idx = some (k, M2)) (hk : (k == 0 || k == 1) = true) (hh : M2.2.2.2.2.2.1 < M.2.2.2.2.2.1) (hn : M2.2.2.2.2.2.2 = 2) (hs : (rest.map (fun v => v.category)).sum ≤ 8) (hl : (av_ents [.ref a, x0, x1]).length ≤ M2.2.2.1) (ha : a < w.1) (hw : w.2.2 a = .inr (M2.2.2.2.2.1, fs)) (c : cl M2 [.ref a, x0, x1] w P2)
    (n : ∀ r w2, P2 r w2 → w2.1 = w.1 ∧ rn M pc2 ls (r.toList ++ rest) w2 P) : rn M pc ls (x1 :: x0 :: .ref a :: rest) w P := by
  subst e
  have hk2 : k = 0 ∨ k = 1 := by simpa using hk
  refine rn_call (k := k) (M2 := M2) (args := [.ref a, x0, x1]) (rest := rest) d rfl ?_ ?_ c (fun r w2 h => ⟨?_, (n r w2 h).2⟩)
  · show av_cut M 3 idx [0, 1] false _ = _
    unfold av_cut
    rw [hr]
    dsimp only
    rw [hn]
    rw [if_pos ⟨rfl, by simpa using hk, hh, by simp, by simpa using hs⟩]
    rfl
  · refine ⟨?_, hl⟩
    have h9 : (decide (a < w.1) && (match w.2.2 a with | .inr q => q.1 == M2.2.2.2.2.1 | _ => false)) = true := by rw [hw]; simp [ha]
    rcases hk2 with rfl | rfl <;> exact h9
  · simp [av_back, (n r w2 h).1]
theorem r_calls_3 {x0 x1 x2 : Value} {idx k : Nat} {P2 : Option Value → av_W → Prop} (d : decode M.2.1 pc = .ok (.invokestatic idx, 3)) (e : pc + 3 = pc2) (hr : av_res M.2.2.2.2.1 idx = some (k, M2)) (hk : (k == 2 || k == 3) = true) (hh : M2.2.2.2.2.2.1 < M.2.2.2.2.2.1) (hn : M2.2.2.2.2.2.2 = 3) (hs : (rest.map (fun v => v.category)).sum ≤ 8) (hl : (av_ents [x0, x1, x2]).length ≤ M2.2.2.1) (c : cl M2 [x0, x1, x2] w P2)
    (n : ∀ r w2, P2 r w2 → w2.1 = w.1 ∧ rn M pc2 ls (r.toList ++ rest) w2 P) : rn M pc ls (x2 :: x1 :: x0 :: rest) w P := by
  subst e
  have hk2 : k = 2 ∨ k = 3 := by simpa using hk
  refine rn_call (k := k) (M2 := M2) (args := [x0, x1, x2]) (rest := rest) d rfl ?_ ?_ c (fun r w2 h => ⟨?_, (n r w2 h).2⟩)
  · show av_cut M 3 idx [2, 3] true _ = _
    unfold av_cut
    rw [hr]
    dsimp only
    rw [hn]
    rw [if_pos ⟨rfl, by simpa using hk, hh, by simp, by simpa using hs⟩]
    rfl
  · refine ⟨?_, hl⟩
    rcases hk2 with rfl | rfl <;> rfl
  · simp [av_back, (n r w2 h).1]
theorem r_callv_3 {x0 x1 x2 : Value} {idx k a : Nat} {fs : List Value} {P2 : Option Value → av_W → Prop} (d : decode M.2.1 pc = .ok (.invokevirtual idx, 3)) (e : pc + 3 = pc2) (hr : av_res M.2.2.2.2.1 idx = some (k, M2)) (hk : (k == 0 || k == 1) = true) (hh : M2.2.2.2.2.2.1 < M.2.2.2.2.2.1) (hn : M2.2.2.2.2.2.2 = 3) (hs : (rest.map (fun v => v.category)).sum ≤ 8) (hl : (av_ents [.ref a, x0, x1, x2]).length ≤ M2.2.2.1) (ha : a < w.1) (hw : w.2.2 a = .inr (M2.2.2.2.2.1, fs)) (c : cl M2 [.ref a, x0, x1, x2] w P2)
    (n : ∀ r w2, P2 r w2 → w2.1 = w.1 ∧ rn M pc2 ls (r.toList ++ rest) w2 P) : rn M pc ls (x2 :: x1 :: x0 :: .ref a :: rest) w P := by
  subst e
  have hk2 : k = 0 ∨ k = 1 := by simpa using hk
  refine rn_call (k := k) (M2 := M2) (args := [.ref a, x0, x1, x2]) (rest := rest) d rfl ?_ ?_ c (fun r w2 h => ⟨?_, (n r w2 h).2⟩)
  · show av_cut M 3 idx [0, 1] false _ = _
    unfold av_cut
    rw [hr]
    dsimp only
    rw [hn]
    rw [if_pos ⟨rfl, by simpa using hk, hh, by simp, by simpa using hs⟩]
    rfl
  · refine ⟨?_, hl⟩
    have h9 : (decide (a < w.1) && (match w.2.2 a with | .inr q => q.1 == M2.2.2.2.2.1 | _ => false)) = true := by rw [hw]; simp [ha]
    rcases hk2 with rfl | rfl <;> exact h9
  · simp [av_back, (n r w2 h).1]
theorem r_calls_4 {x0 x1 x2 x3 : Value} {idx k : Nat} {P2 : Option Value → av_W → Prop} (d : decode M.2.1 pc = .ok (.invokestatic idx, 3)) (e : pc + 3 = pc2) (hr : av_res M.2.2.2.2.1 idx = some (k, M2)) (hk : (k == 2 || k == 3) = true) (hh : M2.2.2.2.2.2.1 < M.2.2.2.2.2.1) (hn : M2.2.2.2.2.2.2 = 4) (hs : (rest.map (fun v => v.category)).sum ≤ 8) (hl : (av_ents [x0, x1, x2, x3]).length ≤ M2.2.2.1) (c : cl M2 [x0, x1, x2, x3] w P2)
    (n : ∀ r w2, P2 r w2 → w2.1 = w.1 ∧ rn M pc2 ls (r.toList ++ rest) w2 P) : rn M pc ls (x3 :: x2 :: x1 :: x0 :: rest) w P := by
  subst e
  have hk2 : k = 2 ∨ k = 3 := by simpa using hk
  refine rn_call (k := k) (M2 := M2) (args := [x0, x1, x2, x3]) (rest := rest) d rfl ?_ ?_ c (fun r w2 h => ⟨?_, (n r w2 h).2⟩)
  · show av_cut M 3 idx [2, 3] true _ = _
    unfold av_cut
    rw [hr]
    dsimp only
    rw [hn]
    rw [if_pos ⟨rfl, by simpa using hk, hh, by simp, by simpa using hs⟩]
    rfl
  · refine ⟨?_, hl⟩
    rcases hk2 with rfl | rfl <;> rfl
  · simp [av_back, (n r w2 h).1]
theorem r_callv_4 {x0 x1 x2 x3 : Value} {idx k a : Nat} {fs : List Value} {P2 : Option Value → av_W → Prop} (d : decode M.2.1 pc = .ok (.invokevirtual idx, 3)) (e : pc + 3 = pc2) (hr : av_res M.2.2.2.2.1 idx = some (k, M2)) (hk : (k == 0 || k == 1) = true) (hh : M2.2.2.2.2.2.1 < M.2.2.2.2.2.1) (hn : M2.2.2.2.2.2.2 = 4) (hs : (rest.map (fun v => v.category)).sum ≤ 8) (hl : (av_ents [.ref a, x0, x1, x2, x3]).length ≤ M2.2.2.1) (ha : a < w.1) (hw : w.2.2 a = .inr (M2.2.2.2.2.1, fs)) (c : cl M2 [.ref a, x0, x1, x2, x3] w P2)
    (n : ∀ r w2, P2 r w2 → w2.1 = w.1 ∧ rn M pc2 ls (r.toList ++ rest) w2 P) : rn M pc ls (x3 :: x2 :: x1 :: x0 :: .ref a :: rest) w P := by
  subst e
  have hk2 : k = 0 ∨ k = 1 := by simpa using hk
  refine rn_call (k := k) (M2 := M2) (args := [.ref a, x0, x1, x2, x3]) (rest := rest) d rfl ?_ ?_ c (fun r w2 h => ⟨?_, (n r w2 h).2⟩)
  · show av_cut M 3 idx [0, 1] false _ = _
    unfold av_cut
    rw [hr]
    dsimp only
    rw [hn]
    rw [if_pos ⟨rfl, by simpa using hk, hh, by simp, by simpa using hs⟩]
    rfl
  · refine ⟨?_, hl⟩
    have h9 : (decide (a < w.1) && (match w.2.2 a with | .inr q => q.1 == M2.2.2.2.2.1 | _ => false)) = true := by rw [hw]; simp [ha]
    rcases hk2 with rfl | rfl <;> exact h9
  · simp [av_back, (n r w2 h).1]
theorem r_calls_5 {x0 x1 x2 x3 x4 : Value} {idx k : Nat} {P2 : Option Value → av_W → Prop} (d : decode M.2.1 pc = .ok (.invokestatic idx, 3)) (e : pc + 3 = pc2) (hr : av_res M.2.2.2.2.1 idx = some (k, M2)) (hk : (k == 2 || k == 3) = true) (hh : M2.2.2.2.2.2.1 < M.2.2.2.2.2.1) (hn : M2.2.2.2.2.2.2 = 5) (hs : (rest.map (fun v => v.category)).sum ≤ 8) (hl : (av_ents [x0, x1, x2, x3, x4]).length ≤ M2.2.2.1) (c : cl M2 [x0, x1, x2, x3, x4] w P2)
    (n : ∀ r w2, P2 r w2 → w2.1 = w.1 ∧ rn M pc2 ls (r.toList ++ rest) w2 P) : rn M pc ls (x4 :: x3 :: x2 :: x1 :: x0 :: rest) w P := by
  subst e
  have hk2 : k = 2 ∨ k = 3 := by simpa using hk
  refine rn_call (k := k) (M2 := M2) (args := [x0, x1, x2, x3, x4]) (rest := rest) d rfl ?_ ?_ c (fun r w2 h => ⟨?_, (n r w2 h).2⟩)
  · show av_cut M 3 idx [2, 3] true _ = _
    unfold av_cut
    rw [hr]
    dsimp only
    rw [hn]
    rw [if_pos ⟨rfl, by simpa using hk, hh, by simp, by simpa using hs⟩]
    rfl
  · refine ⟨?_, hl⟩
    rcases hk2 with rfl | rfl <;> rfl
  · simp [av_back, (n r w2 h).1]
theorem r_callv_5 {x0 x1 x2 x3 x4 : Value} {idx k a : Nat} {fs : List Value} {P2 : Option Value → av_W → Prop} (d : decode M.2.1 pc = .ok (.invokevirtual idx, 3)) (e : pc + 3 = pc2) (hr : av_res M.2.2.2.2.1 idx = some (k, M2)) (hk : (k == 0 || k == 1) = true) (hh : M2.2.2.2.2.2.1 < M.2.2.2.2.2.1) (hn : M2.2.2.2.2.2.2 = 5) (hs : (rest.map (fun v => v.category)).sum ≤ 8) (hl : (av_ents [.ref a, x0, x1, x2, x3, x4]).length ≤ M2.2.2.1) (ha : a < w.1) (hw : w.2.2 a = .inr (M2.2.2.2.2.1, fs)) (c : cl M2 [.ref a, x0, x1, x2, x3, x4] w P2)
    (n : ∀ r w2, P2 r w2 → w2.1 = w.1 ∧ rn M pc2 ls (r.toList ++ rest) w2 P) : rn M pc ls (x4 :: x3 :: x2 :: x1 :: x0 :: .ref a :: rest) w P := by
  subst e
  have hk2 : k = 0 ∨ k = 1 := by simpa using hk
  refine rn_call (k := k) (M2 := M2) (args := [.ref a, x0, x1, x2, x3, x4]) (rest := rest) d rfl ?_ ?_ c (fun r w2 h => ⟨?_, (n r w2 h).2⟩)
  · show av_cut M 3 idx [0, 1] false _ = _
    unfold av_cut
    rw [hr]
    dsimp only
    rw [hn]
    rw [if_pos ⟨rfl, by simpa using hk, hh, by simp, by simpa using hs⟩]
    rfl
  · refine ⟨?_, hl⟩
    have h9 : (decide (a < w.1) && (match w.2.2 a with | .inr q => q.1 == M2.2.2.2.2.1 | _ => false)) = true := by rw [hw]; simp [ha]
    rcases hk2 with rfl | rfl <;> exact h9
  · simp [av_back, (n r w2 h).1]
end RN
