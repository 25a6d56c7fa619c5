/-! the class finds the best order -/
abbrev cov (v p : Int) (s : Nat → Int) : Prop := p < v ∨ ∀ y : Nat, y < v.toNat → cnS p s y ≠ 0
theorem cnS_congr {p x : Int} {s t : Nat → Int} (h : eqp p.toNat s t) : cnS p s x = cnS p t x := by
  unfold cnS
  exact sm_congr (fun j hj => by rw [h j hj])
theorem cov_congr {v p : Int} {s t : Nat → Int} (h : eqp p.toNat s t) : cov v p s ↔ cov v p t := by
  unfold cov
  constructor
  · rintro (q | q)
    · exact Or.inl q
    · exact Or.inr (fun y hy => by rw [← cnS_congr h]; exact q y hy)
  · rintro (q | q)
    · exact Or.inl q
    · exact Or.inr (fun y hy => by rw [cnS_congr h]; exact q y hy)
theorem vS_congr {p : Int} {s t f : Nat → Int} (hp : 2 ≤ p ∧ p ≤ 6) (h : eqp p.toNat s t) {st r : Int} (hf : -1 ≤ f (st * 12 + r).toNat ∧ f (st * 12 + r).toNat < p) : vS s f st r = vS t f st r := by
  unfold vS sD
  by_cases q : 0 ≤ f (st * 12 + r).toNat ∧ f (st * 12 + r).toNat < 6
  · rw [if_pos q, if_pos q]
    exact h _ (by omega)
  · rw [if_neg q, if_neg q]
theorem gaF_congr {p : Int} {s t f g : Nat → Int} (hp : 2 ≤ p ∧ p ≤ 6) (h : eqp p.toNat s t) (hf : ∀ j : Nat, j < 72 → -1 ≤ f j ∧ f j < p) : gaF p s f g = gaF p t f g := by
  unfold gaF
  refine sm_congr (fun st hst => ?_)
  congr 1
  unfold ghF
  refine sm_congr (fun r hr => bz_congr ?_)
  unfold ghC
  have e0 : vS s f st r = vS t f st r := vS_congr hp h (hf _ (by omega))
  have e1 : 0 < (r : Int) → vS s f st ((r : Int) - 1) = vS t f st ((r : Int) - 1) := fun q => vS_congr hp h (hf _ (by omega))
  have e2 : (r : Int) < 11 → vS s f st ((r : Int) + 1) = vS t f st ((r : Int) + 1) := fun q => vS_congr hp h (hf _ (by omega))
  rw [e0]
  constructor
  · rintro (⟨q1, q2⟩ | ⟨q1, q2⟩)
    · exact Or.inl ⟨q1, by rw [← e1 q1]; exact q2⟩
    · exact Or.inr ⟨q1, by rw [← e2 q1]; exact q2⟩
  · rintro (⟨q1, q2⟩ | ⟨q1, q2⟩)
    · exact Or.inl ⟨q1, by rw [e1 q1]; exact q2⟩
    · exact Or.inr ⟨q1, by rw [e2 q1]; exact q2⟩
theorem sm_pos {n : Nat} {f : Nat → Int} (h : ∀ j, j < n → 0 ≤ f j) {j : Nat} (hj : j < n) (h1 : 0 < f j) : 0 < sm n f := by
  induction n with
  | zero => omega
  | succ n ih =>
    show 0 < sm n f + f n
    have h2 := h n (by omega)
    by_cases hjn : j = n
    · subst hjn
      have h4 : 0 ≤ sm j f := by
        clear ih
        have : ∀ m : Nat, m ≤ j → 0 ≤ sm m f := by
          intro m
          induction m with
          | zero => intro _; exact Int.le_refl _
          | succ m ihm =>
            intro hm
            show 0 ≤ sm m f + f m
            have := ihm (by omega)
            have := h m (by omega)
            omega
        exact this j (Nat.le_refl _)
      omega
    · have := ih (fun j hj => h j (by omega)) (by omega)
      omega
theorem cnS_pos {p x : Int} {s : Nat → Int} {j : Nat} (hj : j < p.toNat) (h : s j = x) : cnS p s x ≠ 0 := by
  have h1 := sm_pos (n := p.toNat) (f := fun j => bz (s j = x)) (fun j _ => bz_rg.1) hj (by rw [bz_t h]; decide)
  unfold cnS
  omega
def stF (v : Int) : Nat → Int := fun j => if (j : Int) < v then j else v - 1
theorem hg_stF (v : Int) (n : Nat) (hn : (n : Int) < v) : hg n (stF v) ≤ n ∧ (n : Int) - 1 ≤ hg n (stF v) := by
  induction n with
  | zero => simp [hg]
  | succ n ih =>
    have h1 := ih (by omega)
    have h2 : hg (n + 1) (stF v) = max (hg n (stF v)) (stF v n) := rfl
    have h3 : stF v n = n := if_pos (by omega)
    omega
theorem stF_Rg {v : Int} (hv : 2 ≤ v) (p : Nat) : Rg v p (stF v) := by
  refine ⟨if_pos (by omega), fun j h1 h2 => ?_⟩
  by_cases h : (j : Int) < v
  · have h3 := hg_stF v j h
    have h4 : stF v j = j := if_pos h
    omega
  · have h4 : stF v j = v - 1 := if_neg h
    have h5 := hg_le (s := stF v) (show (v - 1).toNat < j by omega)
    have h6 : stF v (v - 1).toNat = v - 1 := by
      unfold stF
      rw [if_pos (by omega)]
      omega
    omega
theorem ex_cov {v p : Int} (hv : 2 ≤ v) (hp : 2 ≤ p) : cov v p (stF v) := by
  by_cases h : p < v
  · exact Or.inl h
  · refine Or.inr (fun y hy => cnS_pos (j := y) (by omega) ?_)
    exact if_pos (by omega)
/-- what has been seen of the orders so far -/
def doneF (v p : Int) (F G : Nat → Int) (Q : (Nat → Int) → Prop) (fd m : Int) (b : Nat → Int) : Prop :=
  (fd = 0 ∧ ∀ x, Rg v p.toNat x → cov v p x → ¬ Q x) ∨ (fd = 1 ∧ Rg v p.toNat b ∧ cov v p b ∧ gaF p b F G = m ∧ SR b ∧ ∀ x, Rg v p.toNat x → cov v p x → Q x → gaF p b F G ≤ gaF p x F G ∧ (lx p.toNat x b → gaF p b F G < gaF p x F G))
def bestR (v p : Int) (F G b : Nat → Int) : Prop := Rg v p.toNat b ∧ cov v p b ∧ SR b ∧ ∀ x, Rg v p.toNat x → cov v p x → gaF p b F G ≤ gaF p x F G ∧ (lx p.toNat x b → gaF p b F G < gaF p x F G)
theorem done_skip {v p : Int} {F G : Nat → Int} {fd m : Int} {b s : Nat → Int} (h : doneF v p F G (fun x => lx p.toNat x s) fd m b) (hc : ¬ cov v p s) : doneF v p F G (fun x => lx p.toNat x s ∨ eqp p.toNat x s) fd m b := by
  have hno : ∀ x, cov v p x → eqp p.toNat x s → False := fun x h1 h2 => hc ((cov_congr h2).mp h1)
  rcases h with ⟨h1, h2⟩ | ⟨h1, h2, h3, h4, h5, h6⟩
  · refine Or.inl ⟨h1, fun x hx hcx q => ?_⟩
    rcases q with q | q
    · exact h2 x hx hcx q
    · exact hno x hcx q
  · refine Or.inr ⟨h1, h2, h3, h4, h5, fun x hx hcx q => ?_⟩
    rcases q with q | q
    · exact h6 x hx hcx q
    · exact absurd (hno x hcx q) id
theorem done_keep {v p : Int} {F G : Nat → Int} {fd m : Int} {b s : Nat → Int} (hp : 2 ≤ p ∧ p ≤ 6) (hF : ∀ j : Nat, j < 72 → -1 ≤ F j ∧ F j < p) (h : doneF v p F G (fun x => lx p.toNat x s) fd m b) (hfd : fd ≠ 0) (hbs : fd = 1 → lx p.toNat b s) (hm : m ≤ gaF p s F G) : doneF v p F G (fun x => lx p.toNat x s ∨ eqp p.toNat x s) fd m b := by
  rcases h with ⟨h1, h2⟩ | ⟨h1, h2, h3, h4, h5, h6⟩
  · exact absurd h1 hfd
  · refine Or.inr ⟨h1, h2, h3, h4, h5, fun x hx hcx q => ?_⟩
    rcases q with q | q
    · exact h6 x hx hcx q
    · rw [gaF_congr hp q hF]
      refine ⟨by omega, fun q2 => ?_⟩
      exact absurd (lx_asym (hbs h1) (lx_eq_l q2 q)) id
theorem done_new {v p : Int} {F G : Nat → Int} {fd m : Int} {b s b2 : Nat → Int} (hp : 2 ≤ p ∧ p ≤ 6) (hF : ∀ j : Nat, j < 72 → -1 ≤ F j ∧ F j < p) (h : doneF v p F G (fun x => lx p.toNat x s) fd m b) (hs : Rg v p.toNat s) (hc : cov v p s) (hm : fd = 1 → gaF p s F G < m) (hb2 : eqp p.toNat s b2) (hS : SR b2) : doneF v p F G (fun x => lx p.toNat x s ∨ eqp p.toNat x s) 1 (gaF p s F G) b2 := by
  have hg2 : gaF p b2 F G = gaF p s F G := (gaF_congr hp hb2 hF).symm
  refine Or.inr ⟨rfl, Rg_eq hs (by omega) hb2, (cov_congr hb2).mp hc, hg2, hS, fun x hx hcx q => ?_⟩
  rw [hg2]
  rcases q with q | q
  · rcases h with ⟨h1, h2⟩ | ⟨h1, h2, h3, h4, h5, h6⟩
    · exact absurd q (h2 x hx hcx)
    · have h7 := (h6 x hx hcx q).1
      have h8 := hm h1
      exact ⟨by omega, fun _ => by omega⟩
  · rw [gaF_congr hp q hF]
    refine ⟨Int.le_refl _, fun q2 => ?_⟩
    exact absurd (lx_irr q2 (fun j hj => (q j hj).trans (hb2 j hj))) id
theorem done_imp {v p : Int} {F G : Nat → Int} {fd m : Int} {b : Nat → Int} {Q Q2 : (Nat → Int) → Prop} (h : doneF v p F G Q fd m b) (hq : ∀ x, Rg v p.toNat x → Q2 x → Q x) : doneF v p F G Q2 fd m b := by
  rcases h with ⟨h1, h2⟩ | ⟨h1, h2, h3, h4, h5, h6⟩
  · exact Or.inl ⟨h1, fun x hx hcx q => h2 x hx hcx (hq x hx q)⟩
  · exact Or.inr ⟨h1, h2, h3, h4, h5, fun x hx hcx q => h6 x hx hcx (hq x hx q)⟩
theorem done_end {v p : Int} {F G : Nat → Int} {fd m : Int} {b : Nat → Int} (hv : 2 ≤ v) (hp : 2 ≤ p) (h : doneF v p F G (fun _ => True) fd m b) : bestR v p F G b := by
  rcases h with ⟨h1, h2⟩ | ⟨h1, h2, h3, h4, h5, h6⟩
  · exact absurd trivial (h2 _ (stF_Rg hv _) (ex_cov hv hp))
  · exact ⟨h2, h3, h5, fun x hx hcx => h6 x hx hcx trivial⟩
