/-! what the acts keep: a card's values in range -/
theorem CVe.symm {V U : CV} (h : CVe V U) : CVe U V := by
  obtain ⟨⟨a1, a2, a3, a4, a5, a6, a7⟩, a8, a9⟩ := h
  exact ⟨⟨a1.symm, a2.symm, a3.symm, a4.symm, a5.symm, a6.symm, a7.symm⟩, fun j hj => (a8 j hj).symm, fun j hj => (a9 j hj).symm⟩
theorem KW_e {V U : CV} (h : CVe V U) (k : KW U) : KW V := by
  obtain ⟨⟨a1, a2, a3, a4, a5, a6, a7⟩, a8, a9⟩ := h
  obtain ⟨⟨⟨k1, k2, k3, k4⟩, k5, k6, k7⟩, k8⟩ := k
  refine ⟨⟨⟨?_, ?_, ?_, ?_⟩, fun j hj => ?_, fun j hj => ?_, ?_⟩, fun j hj => ?_⟩
  · rw [a1]; exact k1
  · rw [a2]; exact k2
  · rw [a3]; exact k3
  · rw [a4]; exact k4
  · rw [a9 j hj]; exact k5 j hj
  · rw [a8 j hj]; exact k6 j hj
  · rw [a5]; exact k7
  · rw [a2] at hj
    rw [a9 j (by omega), a1]
    exact k8 j hj
theorem inT_in {v : Int} (hv : 2 ≤ v ∧ v ≤ 4) (s : Nat → Int) : SR (preF 6 (inT v) s) ∧ ∀ j : Nat, (j : Int) < 6 → preF 6 (inT v) s j < v := by
  have e : ∀ j : Nat, (j : Int) < 6 → 0 ≤ preF 6 (inT v) s j ∧ preF 6 (inT v) s j < v := fun j hj => by
    rw [preF_lt hj]
    exact ⟨Int.emod_nonneg _ (by omega), Int.emod_lt_of_pos _ (by omega)⟩
  exact ⟨fun j hj => by have := e j (by omega); omega, fun j hj => (e j hj).2⟩

theorem ko_colour {v p sh ln pr gd co : Int} {c s : Nat → Int} (h : KW (v, p, sh, ln, pr, gd, co, c, s)) (a b k : Int) : ∀ V2, (o_colour (v, p, sh, ln, pr, gd, co, c, s) a b k).2 = some V2 → KW V2 := by
  intro V2 e
  obtain ⟨⟨⟨k1, k2, k3, k4⟩, k5, k6, k7⟩, k8⟩ := h
  have k1 : 2 ≤ v ∧ v ≤ 4 := k1
  have k2 : 2 ≤ p ∧ p ≤ 6 := k2
  have k3 : -3 ≤ sh ∧ sh ≤ 3 := k3
  have k4 : 0 ≤ ln ∧ ln ≤ 3 := k4
  have k5 : SR s := k5
  have k6 : ∀ j : Nat, j < 48 → 0 ≤ c j ∧ c j ≤ 9 := k6
  have k7 : 0 ≤ pr ∧ pr ≤ 99999 := k7
  have k8 : ∀ j : Nat, (j : Int) < p → s j < v := k8
  have e : (if ¬ ((0 ≤ a ∧ a ≤ v - 1) ∧ (0 ≤ b ∧ b ≤ 11)) then (-101, none) else if ¬ (0 ≤ k ∧ k ≤ 9) then (-102, none) else if colI c a b = k then (-105, none) else (colI c a b, some (v, p, sh, ln, pr, gd, co, updZ c (a * 12 + b).toNat k, s)) : Int × Option CV).2 = some V2 := e
  split at e
  · cases e
  split at e
  · cases e
  split at e
  · cases e
  cases e
  exact ⟨⟨⟨k1, k2, k3, k4⟩, k5, (fun j hj => by show 0 ≤ (if j = (a * 12 + b).toNat then k else c j) ∧ (if j = (a * 12 + b).toNat then k else c j) ≤ 9; split <;> first | omega | exact k6 j hj), k7⟩, k8⟩

theorem ko_addView {v p sh ln pr gd co : Int} {c s : Nat → Int} (h : KW (v, p, sh, ln, pr, gd, co, c, s))  : ∀ V2, (o_addView (v, p, sh, ln, pr, gd, co, c, s)).2 = some V2 → KW V2 := by
  intro V2 e
  obtain ⟨⟨⟨k1, k2, k3, k4⟩, k5, k6, k7⟩, k8⟩ := h
  have k1 : 2 ≤ v ∧ v ≤ 4 := k1
  have k2 : 2 ≤ p ∧ p ≤ 6 := k2
  have k3 : -3 ≤ sh ∧ sh ≤ 3 := k3
  have k4 : 0 ≤ ln ∧ ln ≤ 3 := k4
  have k5 : SR s := k5
  have k6 : ∀ j : Nat, j < 48 → 0 ≤ c j ∧ c j ≤ 9 := k6
  have k7 : 0 ≤ pr ∧ pr ≤ 99999 := k7
  have k8 : ∀ j : Nat, (j : Int) < p → s j < v := k8
  have e : (if 4 ≤ v then (-103, none) else (v + 1, some (v + 1, p, sh, ln, pr, gd, co, rgF (v * 12) 12 (fun _ => 0) c, preF 6 (inT (v + 1)) s)) : Int × Option CV).2 = some V2 := e
  split at e
  · cases e
  cases e
  exact ⟨⟨⟨(show 2 ≤ v + 1 ∧ v + 1 ≤ 4 by omega), k2, k3, k4⟩, (inT_in (show 2 ≤ v + 1 ∧ v + 1 ≤ 4 by omega) s).1, (fun j hj => by
    show 0 ≤ rgF (v * 12) 12 (fun _ => 0) c j ∧ rgF (v * 12) 12 (fun _ => 0) c j ≤ 9
    unfold rgF
    split
    · exact (by decide : (0 : Int) ≤ 0 ∧ (0 : Int) ≤ 9)
    · exact k6 j hj), k7⟩, fun j hj => (inT_in (show 2 ≤ v + 1 ∧ v + 1 ≤ 4 by omega) s).2 j (by have hj : (j : Int) < p := hj; omega)⟩

theorem ko_removeView {v p sh ln pr gd co : Int} {c s : Nat → Int} (h : KW (v, p, sh, ln, pr, gd, co, c, s)) (a : Int) : ∀ V2, (o_removeView (v, p, sh, ln, pr, gd, co, c, s) a).2 = some V2 → KW V2 := by
  intro V2 e
  obtain ⟨⟨⟨k1, k2, k3, k4⟩, k5, k6, k7⟩, k8⟩ := h
  have k1 : 2 ≤ v ∧ v ≤ 4 := k1
  have k2 : 2 ≤ p ∧ p ≤ 6 := k2
  have k3 : -3 ≤ sh ∧ sh ≤ 3 := k3
  have k4 : 0 ≤ ln ∧ ln ≤ 3 := k4
  have k5 : SR s := k5
  have k6 : ∀ j : Nat, j < 48 → 0 ≤ c j ∧ c j ≤ 9 := k6
  have k7 : 0 ≤ pr ∧ pr ≤ 99999 := k7
  have k8 : ∀ j : Nat, (j : Int) < p → s j < v := k8
  have e : (if ¬ (0 ≤ a ∧ a ≤ v - 1) then (-101, none) else if v ≤ 2 then (-104, none) else (v - 1, some (v - 1, p, sh, ln, pr, gd, co, rgF (a * 12) ((v - 1 - a) * 12) (fun j => c (j + 12)) c, preF 6 (inT (v - 1)) s)) : Int × Option CV).2 = some V2 := e
  split at e
  · cases e
  split at e
  · cases e
  cases e
  exact ⟨⟨⟨(show 2 ≤ v - 1 ∧ v - 1 ≤ 4 by omega), k2, k3, k4⟩, (inT_in (show 2 ≤ v - 1 ∧ v - 1 ≤ 4 by omega) s).1, (fun j hj => by
    show 0 ≤ rgF (a * 12) ((v - 1 - a) * 12) (fun j => c (j + 12)) c j ∧ rgF (a * 12) ((v - 1 - a) * 12) (fun j => c (j + 12)) c j ≤ 9
    unfold rgF
    split
    · exact k6 _ (by omega)
    · exact k6 j hj), k7⟩, fun j hj => (inT_in (show 2 ≤ v - 1 ∧ v - 1 ≤ 4 by omega) s).2 j (by have hj : (j : Int) < p := hj; omega)⟩

theorem ko_swap {v p sh ln pr gd co : Int} {c s : Nat → Int} (h : KW (v, p, sh, ln, pr, gd, co, c, s)) (a b : Int) : ∀ V2, (o_swap (v, p, sh, ln, pr, gd, co, c, s) a b).2 = some V2 → KW V2 := by
  intro V2 e
  obtain ⟨⟨⟨k1, k2, k3, k4⟩, k5, k6, k7⟩, k8⟩ := h
  have k1 : 2 ≤ v ∧ v ≤ 4 := k1
  have k2 : 2 ≤ p ∧ p ≤ 6 := k2
  have k3 : -3 ≤ sh ∧ sh ≤ 3 := k3
  have k4 : 0 ≤ ln ∧ ln ≤ 3 := k4
  have k5 : SR s := k5
  have k6 : ∀ j : Nat, j < 48 → 0 ≤ c j ∧ c j ≤ 9 := k6
  have k7 : 0 ≤ pr ∧ pr ≤ 99999 := k7
  have k8 : ∀ j : Nat, (j : Int) < p → s j < v := k8
  have e : (if ¬ ((0 ≤ a ∧ a ≤ v - 1) ∧ (0 ≤ b ∧ b ≤ v - 1)) then (-101, none) else if a = b then (-105, none) else (sm 12 (unF a b c), some (v, p, sh, ln, pr, gd, co, exF a b 12 c, s)) : Int × Option CV).2 = some V2 := e
  split at e
  · cases e
  split at e
  · cases e
  cases e
  exact ⟨⟨⟨k1, k2, k3, k4⟩, k5, (fun j hj => by
    show 0 ≤ exF a b 12 c j ∧ exF a b 12 c j ≤ 9
    unfold exF
    split
    · exact k6 _ (by omega)
    · split
      · exact k6 _ (by omega)
      · exact k6 j hj), k7⟩, k8⟩

theorem ko_setPitch {v p sh ln pr gd co : Int} {c s : Nat → Int} (h : KW (v, p, sh, ln, pr, gd, co, c, s)) (a : Int) : ∀ V2, (o_setPitch (v, p, sh, ln, pr, gd, co, c, s) a).2 = some V2 → KW V2 := by
  intro V2 e
  obtain ⟨⟨⟨k1, k2, k3, k4⟩, k5, k6, k7⟩, k8⟩ := h
  have k1 : 2 ≤ v ∧ v ≤ 4 := k1
  have k2 : 2 ≤ p ∧ p ≤ 6 := k2
  have k3 : -3 ≤ sh ∧ sh ≤ 3 := k3
  have k4 : 0 ≤ ln ∧ ln ≤ 3 := k4
  have k5 : SR s := k5
  have k6 : ∀ j : Nat, j < 48 → 0 ≤ c j ∧ c j ≤ 9 := k6
  have k7 : 0 ≤ pr ∧ pr ≤ 99999 := k7
  have k8 : ∀ j : Nat, (j : Int) < p → s j < v := k8
  have e : (if ¬ (2 ≤ a ∧ a ≤ 6) then (-102, none) else if p = a then (-105, none) else (p, some (v, a, sh, ln, pr, gd, co, c, preF 6 (inT v) s)) : Int × Option CV).2 = some V2 := e
  split at e
  · cases e
  split at e
  · cases e
  cases e
  exact ⟨⟨⟨k1, (show 2 ≤ a ∧ a ≤ 6 by omega), k3, k4⟩, (inT_in k1 s).1, k6, k7⟩, fun j hj => (inT_in k1 s).2 j (by have hj : (j : Int) < a := hj; omega)⟩

theorem ko_setShift {v p sh ln pr gd co : Int} {c s : Nat → Int} (h : KW (v, p, sh, ln, pr, gd, co, c, s)) (a : Int) : ∀ V2, (o_setShift (v, p, sh, ln, pr, gd, co, c, s) a).2 = some V2 → KW V2 := by
  intro V2 e
  obtain ⟨⟨⟨k1, k2, k3, k4⟩, k5, k6, k7⟩, k8⟩ := h
  have k1 : 2 ≤ v ∧ v ≤ 4 := k1
  have k2 : 2 ≤ p ∧ p ≤ 6 := k2
  have k3 : -3 ≤ sh ∧ sh ≤ 3 := k3
  have k4 : 0 ≤ ln ∧ ln ≤ 3 := k4
  have k5 : SR s := k5
  have k6 : ∀ j : Nat, j < 48 → 0 ≤ c j ∧ c j ≤ 9 := k6
  have k7 : 0 ≤ pr ∧ pr ≤ 99999 := k7
  have k8 : ∀ j : Nat, (j : Int) < p → s j < v := k8
  have e : (if ¬ (-3 ≤ a ∧ a ≤ 3) then (-102, none) else if sh = a then (-105, none) else (sh, some (v, p, a, ln, pr, gd, co, c, s)) : Int × Option CV).2 = some V2 := e
  split at e
  · cases e
  split at e
  · cases e
  cases e
  exact ⟨⟨⟨k1, k2, (show -3 ≤ a ∧ a ≤ 3 by omega), k4⟩, k5, k6, k7⟩, k8⟩

theorem ko_setLean {v p sh ln pr gd co : Int} {c s : Nat → Int} (h : KW (v, p, sh, ln, pr, gd, co, c, s)) (a : Int) : ∀ V2, (o_setLean (v, p, sh, ln, pr, gd, co, c, s) a).2 = some V2 → KW V2 := by
  intro V2 e
  obtain ⟨⟨⟨k1, k2, k3, k4⟩, k5, k6, k7⟩, k8⟩ := h
  have k1 : 2 ≤ v ∧ v ≤ 4 := k1
  have k2 : 2 ≤ p ∧ p ≤ 6 := k2
  have k3 : -3 ≤ sh ∧ sh ≤ 3 := k3
  have k4 : 0 ≤ ln ∧ ln ≤ 3 := k4
  have k5 : SR s := k5
  have k6 : ∀ j : Nat, j < 48 → 0 ≤ c j ∧ c j ≤ 9 := k6
  have k7 : 0 ≤ pr ∧ pr ≤ 99999 := k7
  have k8 : ∀ j : Nat, (j : Int) < p → s j < v := k8
  have e : (if ¬ (0 ≤ a ∧ a ≤ 3) then (-102, none) else if ln = a then (-105, none) else (ln, some (v, p, sh, a, pr, gd, co, c, s)) : Int × Option CV).2 = some V2 := e
  split at e
  · cases e
  split at e
  · cases e
  cases e
  exact ⟨⟨⟨k1, k2, k3, (show 0 ≤ a ∧ a ≤ 3 by omega)⟩, k5, k6, k7⟩, k8⟩

theorem ko_slice {v p sh ln pr gd co : Int} {c s : Nat → Int} (h : KW (v, p, sh, ln, pr, gd, co, c, s)) (a b : Int) : ∀ V2, (o_slice (v, p, sh, ln, pr, gd, co, c, s) a b).2 = some V2 → KW V2 := by
  intro V2 e
  obtain ⟨⟨⟨k1, k2, k3, k4⟩, k5, k6, k7⟩, k8⟩ := h
  have k1 : 2 ≤ v ∧ v ≤ 4 := k1
  have k2 : 2 ≤ p ∧ p ≤ 6 := k2
  have k3 : -3 ≤ sh ∧ sh ≤ 3 := k3
  have k4 : 0 ≤ ln ∧ ln ≤ 3 := k4
  have k5 : SR s := k5
  have k6 : ∀ j : Nat, j < 48 → 0 ≤ c j ∧ c j ≤ 9 := k6
  have k7 : 0 ≤ pr ∧ pr ≤ 99999 := k7
  have k8 : ∀ j : Nat, (j : Int) < p → s j < v := k8
  have e : (if ¬ ((0 ≤ a ∧ a ≤ p - 1) ∧ (0 ≤ b ∧ b ≤ v - 1)) then (-101, none) else if sD s a = b then (-105, none) else (sD s a, some (v, p, sh, ln, pr, gd, co, c, updZ s a.toNat b)) : Int × Option CV).2 = some V2 := e
  split at e
  · cases e
  split at e
  · cases e
  cases e
  exact ⟨⟨⟨k1, k2, k3, k4⟩, (fun j hj => by show 0 ≤ (if j = a.toNat then b else s j) ∧ (if j = a.toNat then b else s j) ≤ 3; split <;> first | omega | exact k5 j hj), k6, k7⟩, fun j hj => by show (if j = a.toNat then b else s j) < v; split <;> first | omega | exact k8 j hj⟩

theorem ko_order {v p sh ln pr gd co : Int} {c s : Nat → Int} (h : KW (v, p, sh, ln, pr, gd, co, c, s)) {b : Nat → Int} (hb : bestO v p sh ln b) : ∀ V2, (o_order (v, p, sh, ln, pr, gd, co, c, s) b).2 = some V2 → KW V2 := by
  intro V2 e
  obtain ⟨⟨⟨k1, k2, k3, k4⟩, k5, k6, k7⟩, k8⟩ := h
  have k1 : 2 ≤ v ∧ v ≤ 4 := k1
  have k2 : 2 ≤ p ∧ p ≤ 6 := k2
  have k3 : -3 ≤ sh ∧ sh ≤ 3 := k3
  have k4 : 0 ≤ ln ∧ ln ≤ 3 := k4
  have k5 : SR s := k5
  have k6 : ∀ j : Nat, j < 48 → 0 ≤ c j ∧ c j ≤ 9 := k6
  have k7 : 0 ≤ pr ∧ pr ≤ 99999 := k7
  have k8 : ∀ j : Nat, (j : Int) < p → s j < v := k8
  have e : (if (∀ j : Nat, j < p.toNat → s j = b j) then (-105, none) else (GA p sh ln (preF 6 b s), some (v, p, sh, ln, pr, gd, co, c, preF 6 b s)) : Int × Option CV).2 = some V2 := e
  split at e
  · cases e
  cases e
  exact ⟨⟨⟨k1, k2, k3, k4⟩, SR_pre hb.2.2.1, k6, k7⟩, fun j hj => by
    have hj : (j : Int) < p := hj
    show preF 6 b s j < v
    rw [preF_lt (by omega)]
    exact (Rg_rg k1.1 hb.1 j (by omega)).2⟩

theorem ko_press {v p sh ln pr gd co : Int} {c s : Nat → Int} (h : KW (v, p, sh, ln, pr, gd, co, c, s)) (a : Int) : ∀ V2, (o_press (v, p, sh, ln, pr, gd, co, c, s) a).2 = some V2 → KW V2 := by
  intro V2 e
  obtain ⟨⟨⟨k1, k2, k3, k4⟩, k5, k6, k7⟩, k8⟩ := h
  have k1 : 2 ≤ v ∧ v ≤ 4 := k1
  have k2 : 2 ≤ p ∧ p ≤ 6 := k2
  have k3 : -3 ≤ sh ∧ sh ≤ 3 := k3
  have k4 : 0 ≤ ln ∧ ln ≤ 3 := k4
  have k5 : SR s := k5
  have k6 : ∀ j : Nat, j < 48 → 0 ≤ c j ∧ c j ≤ 9 := k6
  have k7 : 0 ≤ pr ∧ pr ≤ 99999 := k7
  have k8 : ∀ j : Nat, (j : Int) < p → s j < v := k8
  have e : (if ¬ (1 ≤ a ∧ a ≤ 999) then (-102, none) else if 99999 < pr + a then (-103, none) else if (wvF p v s (ssF p sh ln) (cnA p 19)) = v then (a, some (v, p, sh, ln, pr + a, gd + a, co + a * (3 + p), c, s)) else (0, some (v, p, sh, ln, pr + a, gd + 0, co + a * (3 + p), c, s)) : Int × Option CV).2 = some V2 := e
  split at e
  · cases e
  split at e
  · cases e
  split at e
  · cases e
    exact ⟨⟨⟨k1, k2, k3, k4⟩, k5, k6, (show 0 ≤ pr + a ∧ pr + a ≤ 99999 by omega)⟩, k8⟩
  · cases e
    exact ⟨⟨⟨k1, k2, k3, k4⟩, k5, k6, (show 0 ≤ pr + a ∧ pr + a ≤ 99999 by omega)⟩, k8⟩

/-! texts: one fault; a good text's card -/
theorem bad_uniq {t : Nat → Int} {tl q1 q2 : Int} (h1 : badC t tl q1) (h2 : badC t tl q2) : q1 = q2 := by
  have key : ∀ a b : Int, badC t tl a → badC t tl b → ¬ a < b := by
    intro a b ha hb q
    obtain ⟨a1, a2, a3⟩ := ha
    obtain ⟨b1, b2, b3⟩ := hb
    have c := b2 a.toNat (by omega)
    rcases a3 with ⟨-, a3⟩ | ⟨a3, -⟩
    · rw [tn a1.1] at c
      exact a3 c
    · omega
  have a := key q1 q2 h1 h2
  have b := key q2 q1 h2 h1
  omega
theorem good_bad {t : Nat → Int} {tl q : Int} (h1 : goodC t tl) (h2 : badC t tl q) : False := by
  obtain ⟨a1, a2⟩ := h1
  obtain ⟨b1, b2, b3⟩ := h2
  rcases b3 with ⟨b4, b3⟩ | ⟨-, b3⟩
  · have c := a1 q.toNat (by omega)
    rw [tn b1.1] at c
    exact b3 c
  · exact b3 a2
theorem coF_le {t : Nat → Int} {i j : Nat} (h : i ≤ j) : coF t i ≤ coF t j := by
  induction j with
  | zero => rw [show i = 0 by omega]; exact Int.le_refl _
  | succ j ih =>
    by_cases q : i = j + 1
    · rw [q]; exact Int.le_refl _
    · have a := ih (by omega)
      show _ ≤ (if chZ t j = 58 then (j : Int) else coF t j)
      split
      · have := (coF_rg t j).2
        omega
      · exact a
theorem coF_ge {t : Nat → Int} {k j : Nat} (h : chZ t k = 58) (hj : k < j) : (k : Int) ≤ coF t j := by
  have a : coF t (k + 1) = k := if_pos h
  rw [← a]
  exact coF_le hj
theorem al_dg {t : Nat → Int} {i : Int} (h : alC t (-1) i) (h1 : (i + 1) % 13 ≠ 0) : dgZ t i ≠ -1 := by
  unfold alC at h
  rw [if_pos rfl, if_neg h1] at h
  exact h
theorem al_k {t : Nat → Int} {k i : Int} (h : alC t k i) (hk : k ≠ -1) : i - k ≤ 6 ∧ 0 ≤ dgZ t i ∧ dgZ t i ≤ (k + 1) / 13 - 1 := by
  unfold alC at h
  rw [if_neg hk] at h
  exact h
theorem dgZ_58 {t : Nat → Int} {i : Int} (h : chZ t i = 58) : dgZ t i = -1 := by
  unfold dgZ
  rw [if_neg (by omega)]
theorem dgc_rg {t : Nat → Int} {K : Int} (h : ∀ i : Nat, (i : Int) < K → coF t i = -1 ∧ alC t (-1) i) {rv : Int} (hr : 13 * rv - 1 ≤ K) {j : Nat} (hj : (j : Int) < rv * 12) : 0 ≤ dgc t j ∧ dgc t j ≤ 9 := by
  unfold dgc
  have a := (h ((j : Int) / 12 * 13 + (j : Int) % 12).toNat (by omega)).2
  rw [tn (by omega)] at a
  have b := al_dg a (by omega)
  have c := dgZ_rg (c := t) ((j : Int) / 12 * 13 + (j : Int) % 12)
  omega
theorem KW_rd {v p sh ln pr gd co : Int} {c s : Nat → Int} {t : Nat → Int} {tl : Int} (h : KW (v, p, sh, ln, pr, gd, co, c, s)) (hg : goodC t tl) (h0 : 0 ≤ tl) : KW (rdV (v, p, sh, ln, pr, gd, co, c, s) t tl) := by
  obtain ⟨⟨⟨k1, k2, k3, k4⟩, k5, k6, k7⟩, k8⟩ := h
  have k1 : 2 ≤ v ∧ v ≤ 4 := k1
  have k2 : 2 ≤ p ∧ p ≤ 6 := k2
  have k6 : ∀ j : Nat, j < 48 → 0 ≤ c j ∧ c j ≤ 9 := k6
  obtain ⟨g1, g2⟩ := id hg
  show KW (if coF t tl.toNat = -1 then ((tl + 1) / 13, p, sh, ln, pr, gd, co, preF ((tl + 1) / 13 * 12) (dgc t) c, preF 6 (inT ((tl + 1) / 13)) s) else ((coF t tl.toNat + 1) / 13, tl - coF t tl.toNat - 1, sh, ln, pr, gd, co, preF ((coF t tl.toNat + 1) / 13 * 12) (dgc t) c, preF (tl - coF t tl.toNat - 1) (fun j => dgZ t (coF t tl.toNat + 1 + j)) (preF 6 (inT ((coF t tl.toNat + 1) / 13)) s)))
  have cols : ∀ rv K : Int, (∀ i : Nat, (i : Int) < K → coF t i = -1 ∧ alC t (-1) i) → 13 * rv - 1 ≤ K → ∀ j : Nat, j < 48 → 0 ≤ preF (rv * 12) (dgc t) c j ∧ preF (rv * 12) (dgc t) c j ≤ 9 := by
    intro rv K hK hr j hj
    by_cases q : (j : Int) < rv * 12
    · rw [preF_lt q]
      exact dgc_rg hK hr q
    · rw [preF_ge q]
      exact k6 j hj
  by_cases hk : coF t tl.toNat = -1
  · rw [if_pos hk]
    have b := goodC_1 hg h0 hk
    have hK : ∀ i : Nat, (i : Int) < tl → coF t i = -1 ∧ alC t (-1) i := fun i hi => by
      have e : coF t i = -1 := by
        have a1 := coF_le (t := t) (i := i) (j := tl.toNat) (by omega)
        have a2 := (coF_rg t i).1
        omega
      have a3 := g1 i hi
      rw [e] at a3
      exact ⟨e, a3⟩
    have i2 := inT_in (show 2 ≤ (tl + 1) / 13 ∧ (tl + 1) / 13 ≤ 4 from b.2) s
    exact ⟨⟨⟨b.2, k2, k3, k4⟩, i2.1, cols _ tl hK (by omega), k7⟩, fun j hj => i2.2 j (by have hj : (j : Int) < p := hj; omega)⟩
  · rw [if_neg hk]
    have b := goodC_2 hg h0 hk
    have hc := coF_last hk
    generalize hq : coF t tl.toNat = k at hk b hc
    obtain ⟨b1, b2, b3, b4⟩ := b
    have hck : chZ t ((k.toNat : Nat) : Int) = 58 := by rw [tn b1.1]; exact hc
    have hK : ∀ i : Nat, (i : Int) < k → coF t i = -1 ∧ alC t (-1) i := fun i hi => by
      have e : coF t i = -1 := by
        apply Classical.byContradiction
        intro q
        have a1 := coF_le (t := t) (i := i) (j := k.toNat) (by omega)
        have a2 := (coF_rg t i).1
        have a3 := g1 k.toNat (by omega)
        have a4 := (al_k a3 (by omega)).2.1
        rw [dgZ_58 hck] at a4
        omega
      have a3 := g1 i (by omega)
      rw [e] at a3
      exact ⟨e, a3⟩
    have dg : ∀ j : Nat, (j : Int) < tl - k - 1 → 0 ≤ dgZ t (k + 1 + j) ∧ dgZ t (k + 1 + j) ≤ (k + 1) / 13 - 1 := fun j hj => by
      have a1 := coF_ge hck (j := (k + 1 + j).toNat) (by omega)
      have a2 := coF_le (t := t) (i := (k + 1 + j).toNat) (j := tl.toNat) (by omega)
      have e : coF t (k + 1 + j).toNat = k := by omega
      have a3 := g1 (k + 1 + j).toNat (by omega)
      rw [e, tn (by omega)] at a3
      exact (al_k a3 hk).2
    have i2 := inT_in (show 2 ≤ (k + 1) / 13 ∧ (k + 1) / 13 ≤ 4 from b3) s
    refine ⟨⟨⟨b3, b4, k3, k4⟩, fun j hj => ?_, cols _ k hK (by omega), k7⟩, fun j hj => ?_⟩
    · show 0 ≤ preF (tl - k - 1) (fun j => dgZ t (k + 1 + j)) (preF 6 (inT ((k + 1) / 13)) s) j ∧ preF (tl - k - 1) (fun j => dgZ t (k + 1 + j)) (preF 6 (inT ((k + 1) / 13)) s) j ≤ 3
      by_cases q : (j : Int) < tl - k - 1
      · rw [preF_lt q]
        have := dg j q
        omega
      · rw [preF_ge q]
        exact i2.1 j hj
    · have hj : (j : Int) < tl - k - 1 := hj
      show preF (tl - k - 1) (fun j => dgZ t (k + 1 + j)) (preF 6 (inT ((k + 1) / 13)) s) j < (k + 1) / 13
      rw [preF_lt hj]
      have := dg j hj
      omega
