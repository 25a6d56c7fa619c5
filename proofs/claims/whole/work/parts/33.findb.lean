/-! findBestSlices -/
def fbW (u : av_W) (s b : Nat → Int) : av_W := wst (wst u 10 (arO 6 s)) 13 (arO 6 b)
theorem fbW_9 (u : av_W) (s b s2 : Nat → Int) : wst (fbW u s b) 10 (arO 6 s2) = fbW u s2 b := by
  unfold fbW
  rw [wst_comm _ (arO 6 b) (arO 6 s2) (by decide), wst_wst]
theorem fbW_13 (u : av_W) (s b b2 : Nat → Int) : wst (fbW u s b) 13 (arO 6 b2) = fbW u s b2 := by
  unfold fbW
  rw [wst_wst]
theorem fbW_id {u : av_W} {s b : Nat → Int} (h1 : u.2.2 10 = arO 6 s) (h2 : u.2.2 13 = arO 6 b) : fbW u s b = u := by
  unfold fbW
  rw [wst_id h1, wst_id h2]
theorem fbW_ag (u : av_W) (s b : Nat → Int) : agO 10 14 u (fbW u s b) := (agO.wst _ (by omega)).trans (agO.wst _ (by omega))
theorem fbW_C {u : av_W} {v p sh ln pr gd co : Int} {c s0 : Nat → Int} (h : Cd u 8 9 10 v p sh ln pr gd co c s0) (s b : Nat → Int) : Cd (fbW u s b) 8 9 10 v p sh ln pr gd co c s := (h.slc s).out _ (by decide) (by decide) (by decide)
theorem fbW_G {u : av_W} {F G : Nat → Int} (h : Sg u 8 7 11 12 F G) (s b : Nat → Int) : Sg (fbW u s b) 8 7 11 12 F G := by
  obtain ⟨⟨q1, q2⟩, ⟨q3, q4⟩, ⟨q5, q6⟩, q7⟩ := h
  unfold fbW
  exact ⟨⟨q1, by rw [wst_ne (by decide), wst_ne (by decide)]; exact q2⟩, ⟨q3, by rw [wst_ne (by decide), wst_ne (by decide)]; exact q4⟩, ⟨q5, by rw [wst_ne (by decide), wst_ne (by decide)]; exact q6⟩, q7⟩
theorem mul_rg {a b A B : Int} (h1 : 0 ≤ a ∧ a ≤ A) (h2 : 0 ≤ b ∧ b ≤ B) : 0 ≤ a * b ∧ a * b ≤ A * B := ⟨Int.mul_nonneg h1.1 h2.1, Int.mul_le_mul h1.2 h2.2 h2.1 (by omega)⟩
theorem gaF_rg {p : Int} (hp : 2 ≤ p ∧ p ≤ 6) (s f : Nat → Int) {g : Nat → Int} (hg : ∀ j, j < 6 → 0 ≤ g j ∧ g j ≤ 19) : 0 ≤ gaF p s f g ∧ gaF p s f g ≤ 1368 := by
  have h := sm_rg (n := p.toNat) (f := fun st => g st * ghF s f (st : Int)) (L := 0) (H := 228) (fun j hj => by
    have := mul_rg (hg j (by omega)) (ghF_rg s f (j : Int))
    omega)
  unfold gaF
  omega
theorem nx_SR {v p : Int} {s : Nat → Int} {i : Nat} (hv : 2 ≤ v ∧ v ≤ 4) (hS : SR s) (hi : i < 6) (ho : okN v s i) : SR (nxF p s i p) := by
  intro j hj
  unfold nxF
  have h1 := ho.1
  have h2 := hS i hi
  have h3 := hS j hj
  split
  · omega
  · split <;> omega

set_option maxHeartbeats 4000000 in
theorem c_findLoop (u : av_W) (h33 : 33 ≤ u.1) (hs : Int) (uM : u.2.2 0 = maO hs) (v p sh ln pr gd co : Int) (c s0 : Nat → Int) (uC : Cd u 8 9 10 v p sh ln pr gd co c s0) (hK : KR v p sh ln) (F G : Nat → Int) (uG : Sg u 8 7 11 12 F G) (hF : ∀ j : Nat, j < 72 → -1 ≤ F j ∧ F j < p) (hG : ∀ j, j < 6 → 0 ≤ G j ∧ G j ≤ 19) (en : Int) (hen : (en = 1 ∧ v ≤ p) ∨ (en = 0 ∧ p < v)) : ∀ (n : Nat) (k fd m more : Int) (s b : Nat → Int) (b6 : Option Value), (0 ≤ k ∧ k ≤ 5000 ∧ 5001 ≤ k + n) → (0 ≤ m ∧ m ≤ 1368) → (fd = 0 ∨ fd = 1) → SR s → ((more = 1 ∧ Rg v p.toNat s ∧ SR s ∧ k ≤ nc v s p.toNat ∧ doneF v p F G (fun x => lx p.toNat x s) fd m b ∧ (fd = 1 → lx p.toNat b s)) ∨ (more = 0 ∧ doneF v p F G (fun _ => True) fd m b)) → rn MX4_findBestSlices 58 [some (.ref 0), some (.int (iN en)), some (.int (iN fd)), some (.int (iN m)), some (.int (iN more)), some (.int (iN k)), b6] [] (fbW u s b) (fun r' w' => r' = none ∧ ∃ s b : Nat → Int, w' = fbW u s b ∧ bestR v p F G b) := by
  obtain ⟨hv, hp, hsh, hln⟩ := id hK
  have hF5 : ∀ j, j < 72 → -1 ≤ F j ∧ F j ≤ 5 := fun j hj => by
    have := hF j hj
    omega
  intro n
  induction n with
  | zero =>
    intro k fd m more s b b6 hk
    exfalso
    omega
  | succ n ih =>
    intro k fd m more s b b6 hk hm hfd hS hI
    have after : ∀ (fd m : Int) (b : Nat → Int) (b6 : Option Value), (0 ≤ m ∧ m ≤ 1368) → (fd = 0 ∨ fd = 1) → k ≤ 4999 → Rg v p.toNat s → k ≤ nc v s p.toNat → doneF v p F G (fun x => lx p.toNat x s ∨ eqp p.toNat x s) fd m b → (fd = 1 → lx p.toNat b s ∨ eqp p.toNat b s) → rn MX4_findBestSlices 123 [some (.ref 0), some (.int (iN en)), some (.int (iN fd)), some (.int (iN m)), some (.int (iN 1)), some (.int (iN k)), b6] [] (fbW u s b) (fun r' w' => r' = none ∧ ∃ s b : Nat → Int, w' = fbW u s b ∧ bestR v p F G b) := by
      intro fd m b b6 hm hfd hk4 hR hkn hD hbs
      have yC := fbW_C uC s b
      have yG := fbW_G uG s b
      have yM : (fbW u s b).2.2 0 = maO hs := by rw [(fbW_ag u s b).2 0 (by omega)]; exact uM
      have y0 : 0 < (fbW u s b).1 := (show 0 < u.1 by omega)
      have y13 : 13 < (fbW u s b).1 := (show 13 < u.1 by omega)
      have y13w : (fbW u s b).2.2 13 = arO 6 b := wst_self
      obtain ⟨⟨y7, y7w⟩, -, ⟨y9, y9w⟩, -⟩ := id yC
      obtain ⟨⟨y10, y10w⟩, -⟩ := id yG
      refine r_aload_n (pc2 := 124) dX4_findBestSlices_123 rfl rfl ?_
      refine r_getf (pc2 := 127) dX4_findBestSlices_124 rfl fl_4_24 (by assumption) (by assumption) (by rfl) ?_
      refine r_callv_0 (pc2 := 130) dX4_findBestSlices_127 rfl rs_4_247 rfl (by decide) rfl (Nat.le_of_ble_eq_true rfl) (Nat.le_of_ble_eq_true rfl) (by assumption) (by assumption) (c_nextSlices _ 8 9 10 v p sh ln pr gd co _ _ yC hK hS) (fun r_ w_ h_ => ?_)
      obtain ⟨mo, s2, e1, e2, hS2, hI2⟩ : ∃ (mo : Int) (s2 : Nat → Int), r_ = some (.int (iN mo)) ∧ w_ = fbW u s2 b ∧ SR s2 ∧ ((mo = 1 ∧ Rg v p.toNat s2 ∧ SR s2 ∧ (k + 1) ≤ nc v s2 p.toNat ∧ doneF v p F G (fun x => lx p.toNat x s2) fd m b ∧ (fd = 1 → lx p.toNat b s2)) ∨ (mo = 0 ∧ doneF v p F G (fun _ => True) fd m b)) := by
        rcases h_ with ⟨i, i1, i2, i3, i4, e1, e2⟩ | ⟨hno, e1, e2⟩
        · have hR2 := nx_Rg hR hv.1 ⟨i1, i2⟩ i3
          have hlt := nx_lt (s := s) i2
          have hnl := nc_lt hv (Rg_rg hv.1 hR) (Rg_rg hv.1 hR2) hlt
          refine ⟨1, nxF p s i p, e1, by rw [e2, fbW_9], nx_SR hv hS (by omega) i3, Or.inl ⟨rfl, hR2, nx_SR hv hS (by omega) i3, by omega, done_imp hD (fun x hx q => nx_gap ⟨i1, i2⟩ i4 hx hR.1 q), fun hf => ?_⟩⟩
          rcases hbs hf with q | q
          · exact lx_trans q hlt
          · exact lx_eq_l hlt (fun j hj => (q j hj).symm)
        · exact ⟨0, s, e1, e2, hS, Or.inr ⟨rfl, done_imp hD (fun x hx _ => nx_last hno hx hR.1)⟩⟩
      rw [e1, e2]
      refine ⟨rfl, ?_⟩
      refine r_ist_4 (pc2 := 132) dX4_findBestSlices_130 rfl rfl ?_
      refine r_iinc_5 (pc2 := 135) dX4_findBestSlices_132 rfl rfl ?_
      refine r_goto (tgt := 58) dX4_findBestSlices_135 (by decide) ?_
      exact ih (k + 1) fd m mo s2 b b6 (by omega) hm hfd hS2 hI2
    have yCh := fbW_C uC s b
    have yGh := fbW_G uG s b
    have yMh : (fbW u s b).2.2 0 = maO hs := by rw [(fbW_ag u s b).2 0 (by omega)]; exact uM
    have y0h : 0 < (fbW u s b).1 := (show 0 < u.1 by omega)
    have y13h : 13 < (fbW u s b).1 := (show 13 < u.1 by omega)
    have y13wh : (fbW u s b).2.2 13 = arO 6 b := wst_self
    obtain ⟨⟨y7h, y7wh⟩, -, ⟨y9h, y9wh⟩, -⟩ := id yCh
    obtain ⟨⟨y10h, y10wh⟩, -⟩ := id yGh
    have hmo : more = 0 ∨ more = 1 := by rcases hI with q | q; exact Or.inr q.1; exact Or.inl q.1
    refine r_iload (pc2 := 60) dX4_findBestSlices_58 rfl rfl ?_
    refine r_if_eq (pc2 := 63) (tgt := 138) dX4_findBestSlices_60 rfl (by decide) (by omega) (fun h60 => ?_) (fun h60 => ?_)
    · rcases hI with ⟨e1, -⟩ | ⟨-, hD⟩
      · omega
      · refine r_retv dX4_findBestSlices_138 rfl ?_
        exact ⟨rfl, s, b, rfl, done_end hv.1 hp.1 hD⟩
    · rcases hI with ⟨e1, hR, -, hkn, hD, hbs⟩ | ⟨e0, -⟩
      rotate_left
      · exact absurd e0 h60
      have hnc := nc_rg hv (Rg_rg hv.1 hR)
      have h46 : (4 : Int) ^ p.toNat ≤ 4096 := by
        rcases (show p.toNat = 2 ∨ p.toNat = 3 ∨ p.toNat = 4 ∨ p.toNat = 5 ∨ p.toNat = 6 by omega) with h | h | h | h | h <;> rw [h] <;> decide
      have hk4 : k ≤ 4999 := by omega
      refine r_iload (pc2 := 65) dX4_findBestSlices_63 rfl rfl ?_
      refine r_sipush (pc2 := 68) dX4_findBestSlices_65 rfl (by decide) ?_
      refine r_icmp_ge (pc2 := 71) (tgt := 138) dX4_findBestSlices_68 rfl (by decide) (by omega) (by omega) (fun h68 => ?_) (fun h68 => ?_)
      · exfalso
        omega
      · refine r_iload_n (pc2 := 72) dX4_findBestSlices_71 rfl rfl ?_
        refine r_if_eq (pc2 := 75) (tgt := 85) dX4_findBestSlices_72 rfl (by decide) (by omega) (fun h72 => ?_) (fun h72 => ?_)
        · have hcv : cov v p s := Or.inl (by omega)
          refine r_aload_n (pc2 := 86) dX4_findBestSlices_85 rfl rfl ?_
          refine r_getf (pc2 := 89) dX4_findBestSlices_86 rfl fl_4_21 (by assumption) (by assumption) (by rfl) ?_
          refine r_callv_0 (pc2 := 92) dX4_findBestSlices_89 rfl rs_4_130 rfl (by decide) rfl (Nat.le_of_ble_eq_true rfl) (Nat.le_of_ble_eq_true rfl) (by assumption) (by assumption) (c_ghostsAll _ 8 9 10 v p sh ln pr gd co _ _ yCh hK hS 7 11 12 F G yGh hF5) (fun r_ w_ h_ => ?_)
          rw [h_.1, h_.2]
          clear h_ w_ r_
          refine ⟨rfl, ?_⟩
          refine r_ist_6 (pc2 := 94) dX4_findBestSlices_92 rfl rfl ?_
          have hga := gaF_rg hp s F hG
          refine r_iload_n (pc2 := 95) dX4_findBestSlices_94 rfl rfl ?_
          refine r_if_eq (pc2 := 98) (tgt := 104) dX4_findBestSlices_95 rfl (by decide) (by omega) (fun h95 => ?_) (fun h95 => ?_)
          · have hnew : ∀ b2 : Nat → Int, b2 = preF 6 s b → doneF v p F G (fun x => lx p.toNat x s ∨ eqp p.toNat x s) 1 (gaF p s F G) b2 ∧ (eqp p.toNat b2 s) := fun b2 hb2 => by
              have he : eqp p.toNat s b2 := fun j hj => by rw [hb2, preF_lt (by omega)]
              refine ⟨done_new hp hF hD hR hcv (fun hf => by omega) he (fun j hj => ?_), fun j hj => (he j hj).symm⟩
              rw [hb2, preF_lt (by omega)]
              exact hS j hj
            refine r_iconst (pc2 := 105) dX4_findBestSlices_104 rfl ?_
            refine r_ist_2 (pc2 := 106) dX4_findBestSlices_105 rfl rfl ?_
            refine r_iload (pc2 := 108) dX4_findBestSlices_106 rfl rfl ?_
            refine r_ist_3 (pc2 := 109) dX4_findBestSlices_108 rfl rfl ?_
            refine r_aload_n (pc2 := 110) dX4_findBestSlices_109 rfl rfl ?_
            refine r_getf (pc2 := 113) dX4_findBestSlices_110 rfl fl_4_24 (by assumption) (by assumption) (by rfl) ?_
            refine r_getf (pc2 := 116) dX4_findBestSlices_113 rfl fl_4_240 (by assumption) (by assumption) (by rfl) ?_
            refine r_aload_n (pc2 := 117) dX4_findBestSlices_116 rfl rfl ?_
            refine r_getf (pc2 := 120) dX4_findBestSlices_117 rfl fl_4_27 (by assumption) (by assumption) (by rfl) ?_
            refine r_calls_2 (pc2 := 123) dX4_findBestSlices_120 rfl rs_4_243 rfl (by decide) rfl (Nat.le_of_ble_eq_true rfl) (Nat.le_of_ble_eq_true rfl) (c_copyNumbers _ 10 13 6 s b y9h y9wh y13h y13wh (by decide) (by omega)) (fun r_ w_ h_ => ?_)
            rw [h_.1, h_.2]
            clear h_ w_ r_
            refine ⟨rfl, ?_⟩
            subst e1
            rw [fbW_13]
            exact after 1 (gaF p s F G) _ _ (by omega) (Or.inr rfl) hk4 hR hkn (hnew _ rfl).1 (fun _ => Or.inr (hnew _ rfl).2)
          · refine r_iload (pc2 := 100) dX4_findBestSlices_98 rfl rfl ?_
            refine r_iload_n (pc2 := 101) dX4_findBestSlices_100 rfl rfl ?_
            refine r_icmp_ge (pc2 := 104) (tgt := 123) dX4_findBestSlices_101 rfl (by decide) (by omega) (by omega) (fun h101 => ?_) (fun h101 => ?_)
            · subst e1
              exact after fd m b _ hm hfd hk4 hR hkn (done_keep hp hF hD (by omega) hbs (by omega)) (fun hf => Or.inl (hbs hf))
            · have hnew : ∀ b2 : Nat → Int, b2 = preF 6 s b → doneF v p F G (fun x => lx p.toNat x s ∨ eqp p.toNat x s) 1 (gaF p s F G) b2 ∧ (eqp p.toNat b2 s) := fun b2 hb2 => by
                have he : eqp p.toNat s b2 := fun j hj => by rw [hb2, preF_lt (by omega)]
                refine ⟨done_new hp hF hD hR hcv (fun hf => by omega) he (fun j hj => ?_), fun j hj => (he j hj).symm⟩
                rw [hb2, preF_lt (by omega)]
                exact hS j hj
              refine r_iconst (pc2 := 105) dX4_findBestSlices_104 rfl ?_
              refine r_ist_2 (pc2 := 106) dX4_findBestSlices_105 rfl rfl ?_
              refine r_iload (pc2 := 108) dX4_findBestSlices_106 rfl rfl ?_
              refine r_ist_3 (pc2 := 109) dX4_findBestSlices_108 rfl rfl ?_
              refine r_aload_n (pc2 := 110) dX4_findBestSlices_109 rfl rfl ?_
              refine r_getf (pc2 := 113) dX4_findBestSlices_110 rfl fl_4_24 (by assumption) (by assumption) (by rfl) ?_
              refine r_getf (pc2 := 116) dX4_findBestSlices_113 rfl fl_4_240 (by assumption) (by assumption) (by rfl) ?_
              refine r_aload_n (pc2 := 117) dX4_findBestSlices_116 rfl rfl ?_
              refine r_getf (pc2 := 120) dX4_findBestSlices_117 rfl fl_4_27 (by assumption) (by assumption) (by rfl) ?_
              refine r_calls_2 (pc2 := 123) dX4_findBestSlices_120 rfl rs_4_243 rfl (by decide) rfl (Nat.le_of_ble_eq_true rfl) (Nat.le_of_ble_eq_true rfl) (c_copyNumbers _ 10 13 6 s b y9h y9wh y13h y13wh (by decide) (by omega)) (fun r_ w_ h_ => ?_)
              rw [h_.1, h_.2]
              clear h_ w_ r_
              refine ⟨rfl, ?_⟩
              subst e1
              rw [fbW_13]
              exact after 1 (gaF p s F G) _ _ (by omega) (Or.inr rfl) hk4 hR hkn (hnew _ rfl).1 (fun _ => Or.inr (hnew _ rfl).2)
        · refine r_aload_n (pc2 := 76) dX4_findBestSlices_75 rfl rfl ?_
          refine r_getf (pc2 := 79) dX4_findBestSlices_76 rfl fl_4_24 (by assumption) (by assumption) (by rfl) ?_
          refine r_callv_0 (pc2 := 82) dX4_findBestSlices_79 rfl rs_4_237 rfl (by decide) rfl (Nat.le_of_ble_eq_true rfl) (Nat.le_of_ble_eq_true rfl) (by assumption) (by assumption) (c_showsEachView _ 8 9 10 v p sh ln pr gd co _ _ yCh hK hS) (fun r_ w_ h_ => ?_)
          rw [h_.1, h_.2]
          clear h_ w_ r_
          refine ⟨rfl, ?_⟩
          refine r_ifb_eq (pc2 := 85) (tgt := 123) dX4_findBestSlices_82 rfl (by decide)  (fun h82 => ?_) (fun h82 => ?_)
          · have hcn : ¬ cov v p s := by
              rintro (q | q)
              · omega
              · exact h82 q
            subst e1
            exact after fd m b b6 hm hfd hk4 hR hkn (done_skip hD hcn) (fun hf => Or.inl (hbs hf))
          · have hcv : cov v p s := Or.inr h82
            refine r_aload_n (pc2 := 86) dX4_findBestSlices_85 rfl rfl ?_
            refine r_getf (pc2 := 89) dX4_findBestSlices_86 rfl fl_4_21 (by assumption) (by assumption) (by rfl) ?_
            refine r_callv_0 (pc2 := 92) dX4_findBestSlices_89 rfl rs_4_130 rfl (by decide) rfl (Nat.le_of_ble_eq_true rfl) (Nat.le_of_ble_eq_true rfl) (by assumption) (by assumption) (c_ghostsAll _ 8 9 10 v p sh ln pr gd co _ _ yCh hK hS 7 11 12 F G yGh hF5) (fun r_ w_ h_ => ?_)
            rw [h_.1, h_.2]
            clear h_ w_ r_
            refine ⟨rfl, ?_⟩
            refine r_ist_6 (pc2 := 94) dX4_findBestSlices_92 rfl rfl ?_
            have hga := gaF_rg hp s F hG
            refine r_iload_n (pc2 := 95) dX4_findBestSlices_94 rfl rfl ?_
            refine r_if_eq (pc2 := 98) (tgt := 104) dX4_findBestSlices_95 rfl (by decide) (by omega) (fun h95 => ?_) (fun h95 => ?_)
            · have hnew : ∀ b2 : Nat → Int, b2 = preF 6 s b → doneF v p F G (fun x => lx p.toNat x s ∨ eqp p.toNat x s) 1 (gaF p s F G) b2 ∧ (eqp p.toNat b2 s) := fun b2 hb2 => by
                have he : eqp p.toNat s b2 := fun j hj => by rw [hb2, preF_lt (by omega)]
                refine ⟨done_new hp hF hD hR hcv (fun hf => by omega) he (fun j hj => ?_), fun j hj => (he j hj).symm⟩
                rw [hb2, preF_lt (by omega)]
                exact hS j hj
              refine r_iconst (pc2 := 105) dX4_findBestSlices_104 rfl ?_
              refine r_ist_2 (pc2 := 106) dX4_findBestSlices_105 rfl rfl ?_
              refine r_iload (pc2 := 108) dX4_findBestSlices_106 rfl rfl ?_
              refine r_ist_3 (pc2 := 109) dX4_findBestSlices_108 rfl rfl ?_
              refine r_aload_n (pc2 := 110) dX4_findBestSlices_109 rfl rfl ?_
              refine r_getf (pc2 := 113) dX4_findBestSlices_110 rfl fl_4_24 (by assumption) (by assumption) (by rfl) ?_
              refine r_getf (pc2 := 116) dX4_findBestSlices_113 rfl fl_4_240 (by assumption) (by assumption) (by rfl) ?_
              refine r_aload_n (pc2 := 117) dX4_findBestSlices_116 rfl rfl ?_
              refine r_getf (pc2 := 120) dX4_findBestSlices_117 rfl fl_4_27 (by assumption) (by assumption) (by rfl) ?_
              refine r_calls_2 (pc2 := 123) dX4_findBestSlices_120 rfl rs_4_243 rfl (by decide) rfl (Nat.le_of_ble_eq_true rfl) (Nat.le_of_ble_eq_true rfl) (c_copyNumbers _ 10 13 6 s b y9h y9wh y13h y13wh (by decide) (by omega)) (fun r_ w_ h_ => ?_)
              rw [h_.1, h_.2]
              clear h_ w_ r_
              refine ⟨rfl, ?_⟩
              subst e1
              rw [fbW_13]
              exact after 1 (gaF p s F G) _ _ (by omega) (Or.inr rfl) hk4 hR hkn (hnew _ rfl).1 (fun _ => Or.inr (hnew _ rfl).2)
            · refine r_iload (pc2 := 100) dX4_findBestSlices_98 rfl rfl ?_
              refine r_iload_n (pc2 := 101) dX4_findBestSlices_100 rfl rfl ?_
              refine r_icmp_ge (pc2 := 104) (tgt := 123) dX4_findBestSlices_101 rfl (by decide) (by omega) (by omega) (fun h101 => ?_) (fun h101 => ?_)
              · subst e1
                exact after fd m b _ hm hfd hk4 hR hkn (done_keep hp hF hD (by omega) hbs (by omega)) (fun hf => Or.inl (hbs hf))
              · have hnew : ∀ b2 : Nat → Int, b2 = preF 6 s b → doneF v p F G (fun x => lx p.toNat x s ∨ eqp p.toNat x s) 1 (gaF p s F G) b2 ∧ (eqp p.toNat b2 s) := fun b2 hb2 => by
                  have he : eqp p.toNat s b2 := fun j hj => by rw [hb2, preF_lt (by omega)]
                  refine ⟨done_new hp hF hD hR hcv (fun hf => by omega) he (fun j hj => ?_), fun j hj => (he j hj).symm⟩
                  rw [hb2, preF_lt (by omega)]
                  exact hS j hj
                refine r_iconst (pc2 := 105) dX4_findBestSlices_104 rfl ?_
                refine r_ist_2 (pc2 := 106) dX4_findBestSlices_105 rfl rfl ?_
                refine r_iload (pc2 := 108) dX4_findBestSlices_106 rfl rfl ?_
                refine r_ist_3 (pc2 := 109) dX4_findBestSlices_108 rfl rfl ?_
                refine r_aload_n (pc2 := 110) dX4_findBestSlices_109 rfl rfl ?_
                refine r_getf (pc2 := 113) dX4_findBestSlices_110 rfl fl_4_24 (by assumption) (by assumption) (by rfl) ?_
                refine r_getf (pc2 := 116) dX4_findBestSlices_113 rfl fl_4_240 (by assumption) (by assumption) (by rfl) ?_
                refine r_aload_n (pc2 := 117) dX4_findBestSlices_116 rfl rfl ?_
                refine r_getf (pc2 := 120) dX4_findBestSlices_117 rfl fl_4_27 (by assumption) (by assumption) (by rfl) ?_
                refine r_calls_2 (pc2 := 123) dX4_findBestSlices_120 rfl rs_4_243 rfl (by decide) rfl (Nat.le_of_ble_eq_true rfl) (Nat.le_of_ble_eq_true rfl) (c_copyNumbers _ 10 13 6 s b y9h y9wh y13h y13wh (by decide) (by omega)) (fun r_ w_ h_ => ?_)
                rw [h_.1, h_.2]
                clear h_ w_ r_
                refine ⟨rfl, ?_⟩
                subst e1
                rw [fbW_13]
                exact after 1 (gaF p s F G) _ _ (by omega) (Or.inr rfl) hk4 hR hkn (hnew _ rfl).1 (fun _ => Or.inr (hnew _ rfl).2)
