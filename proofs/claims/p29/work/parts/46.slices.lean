/-! both cards: the slices of the second are made those of the first -/
section L46
variable {sc : av_E} {w : av_W} {v p sh ln pr gd co : Int} {c s c2 s2 : Nat → Int} {U V : CV} {len len2 : Int} {t t2 : Nat → Int}
theorem l_thereT (J : JJ sc w (v, p, sh, ln, pr, gd, co, c, s) U len len2 t t2) (x : Int) (hx : RG x) : cl ML_there [.ref 0, .int (iN x)] w (fun r' w' => r' = some (.int (iN (thZ v x))) ∧ JJ sc w' (v, p, sh, ln, pr, gd, co, c, s) U len len2 t t2) := l_there J x hx
theorem oc0 (J : JJ sc w (v, p, sh, ln, pr, gd, co, c, s) U len len2 t t2) : cl MX4_count [.ref 0, .int (iN 0)] w (fun r' w' => r' = some (.int (iN v)) ∧ JJ sc w' (v, p, sh, ln, pr, gd, co, c, s) U len len2 t t2) := ot_count J 0 (by omega)
theorem oc1 (J : JJ sc w (v, p, sh, ln, pr, gd, co, c, s) U len len2 t t2) : cl MX4_count [.ref 0, .int (iN 1)] w (fun r' w' => r' = some (.int (iN p)) ∧ JJ sc w' (v, p, sh, ln, pr, gd, co, c, s) U len len2 t t2) := ot_count J 1 (by omega)
theorem oc2 (J : JJ sc w (v, p, sh, ln, pr, gd, co, c, s) U len len2 t t2) : cl MX4_count [.ref 0, .int (iN 2)] w (fun r' w' => r' = some (.int (iN sh)) ∧ JJ sc w' (v, p, sh, ln, pr, gd, co, c, s) U len len2 t t2) := ot_count J 2 (by omega)
theorem m_sl1 {x : Int} {k : Int} (hK : KW (v, p, sh, ln, pr, gd, co, c2, s2)) (hk : 0 ≤ k ∧ k < p) (hx : 0 ≤ x ∧ x < v) : ∃ (y : Int) (s3 : Nat → Int), (o_slice (v, p, sh, ln, pr, gd, co, c2, s2) k x).1 = y ∧ (-105 ≤ y ∧ y ≤ 4 ∧ y ≠ -101) ∧ nx (o_slice (v, p, sh, ln, pr, gd, co, c2, s2) k x) (v, p, sh, ln, pr, gd, co, c2, s2) = (v, p, sh, ln, pr, gd, co, c2, s3) ∧ s3 k.toNat = x ∧ ∀ j : Nat, j ≠ k.toNat → s3 j = s2 j := by
  obtain ⟨k1, k2, k3, k4, k5, k6, k7, k8⟩ := KW_p hK
  have i1 : sD s2 k = s2 k.toNat := if_pos (by omega)
  have r1 := k5 k.toNat (by omega)
  by_cases q : sD s2 k = x
  · have g1 : o_slice (v, p, sh, ln, pr, gd, co, c2, s2) k x = (-105, none) := (if_neg (by omega)).trans (if_pos q)
    rw [g1]
    exact ⟨-105, s2, rfl, by omega, rfl, by rw [← i1]; exact q, fun _ _ => rfl⟩
  · have g1 : o_slice (v, p, sh, ln, pr, gd, co, c2, s2) k x = (sD s2 k, some (v, p, sh, ln, pr, gd, co, c2, updZ s2 k.toNat x)) := (if_neg (by omega)).trans (if_neg q)
    rw [g1]
    exact ⟨sD s2 k, updZ s2 k.toNat x, rfl, by rw [i1]; omega, rfl, if_pos rfl, fun j hj => if_neg hj⟩

set_option maxHeartbeats 4000000 in
theorem l_areSlicesT (J : JJ sc w (v, p, sh, ln, pr, gd, co, c, s) (v, p, sh, ln, pr, gd, co, c2, s2) len len2 t t2) : cl ML_areSlices [.ref 0, .ref 33] w (fun r' w' => r' = some (.int (iN 1)) ∧ ∃ s3 : Nat → Int, JJ sc w' (v, p, sh, ln, pr, gd, co, c, s) (v, p, sh, ln, pr, gd, co, c2, s3) len len2 t t2 ∧ MS v p s s3) := by
  obtain ⟨k1, k2, k3, k4, k5, k6, k7, k8⟩ := KW_p J.kv.1
  show rn ML_areSlices 0 [some (.ref 0), some (.ref 33), none, none] [] w (fun r' w' => r' = some (.int (iN 1)) ∧ ∃ s3 : Nat → Int, JJ sc w' (v, p, sh, ln, pr, gd, co, c, s) (v, p, sh, ln, pr, gd, co, c2, s3) len len2 t t2 ∧ MS v p s s3)
  have lp : ∀ (n : Nat) (k : Int) (wk : av_W) (sk : Nat → Int), (0 ≤ k ∧ k ≤ p ∧ p + 1 ≤ k + n) → (JJ sc wk (v, p, sh, ln, pr, gd, co, c, s) (v, p, sh, ln, pr, gd, co, c2, sk) len len2 t t2) → (∀ j : Nat, (j : Int) < k → sk j = v - 1 - s j) → rn ML_areSlices 4 [some (.ref 0), some (.ref 33), some (.int (iN 1)), some (.int (iN k))] [] wk (fun r' w' => r' = some (.int (iN 1)) ∧ ∃ s3 : Nat → Int, JJ sc w' (v, p, sh, ln, pr, gd, co, c, s) (v, p, sh, ln, pr, gd, co, c2, s3) len len2 t t2 ∧ MS v p s s3) := by
    intro n
    induction n with
    | zero =>
      intro k wk sk hk0 hk1 hk2
      exfalso
      omega
    | succ n ih =>
      intro k wk sk hk0 hk1 hk2
      have J := hk1
      have n_ := J.1
      obtain ⟨⟨z0, f0, z0w⟩, z33, f33, z33w⟩ := J.cells
      obtain ⟨k1, k2, k3, k4, k5, k6, k7, k8⟩ := KW_p J.kv.1
      have k5k : k < p → 0 ≤ s k.toNat ∧ s k.toNat < v := fun q => k5 k.toNat (by omega)
      have hvw : k < p → o_viewOf (v, p, sh, ln, pr, gd, co, c, s) k = s k.toNat := fun q => (if_neg (by omega)).trans (if_pos (by omega))
      have hth : k < p → thZ v (s k.toNat) = v - 1 - s k.toNat := fun q => by have := k5k q; exact if_neg (by omega)
      refine r_iload_n (pc2 := 5) dL_areSlices_4 rfl rfl ?_
      refine r_aload_n (pc2 := 6) dL_areSlices_5 rfl rfl ?_
      refine r_iconst (pc2 := 7) dL_areSlices_6 rfl ?_
      refine r_callv_1 (pc2 := 10) dL_areSlices_7 rfl rs_99_9 rfl (by decide) rfl (Nat.le_of_ble_eq_true rfl) (Nat.le_of_ble_eq_true rfl) (by assumption) (by assumption) (oc1 J) (fun r_ w_ h_ => ?_)
      obtain ⟨e_, J⟩ := h_
      rw [e_]
      clear e_ r_
      have n_ := J.1
      obtain ⟨⟨z0, f0, z0w⟩, z33, f33, z33w⟩ := J.cells
      refine ⟨by omega, ?_⟩
      refine r_icmp_ge (pc2 := 13) (tgt := 48) dL_areSlices_10 rfl (by decide) (by omega) (by omega) (fun h10 => ?_) (fun h10 => ?_)
      · refine r_iload_n (pc2 := 49) dL_areSlices_48 rfl rfl ?_
        refine r_retb dL_areSlices_49 rfl (by first | exact Or.inl rfl | exact Or.inr rfl | exact bz_01) ?_
        exact ⟨rfl, sk, J, fun j hj => hk2 j (by omega)⟩
      · have k5k := k5k (by omega)
        have hvw := hvw (by omega)
        have hth := hth (by omega)
        refine r_iload_n (pc2 := 14) dL_areSlices_13 rfl rfl ?_
        refine r_if_eq (pc2 := 17) (tgt := 40) dL_areSlices_14 rfl (by decide) (by omega) (fun h14 => ?_) (fun h14 => ?_)
        · exfalso
          omega
        · refine r_aload_n (pc2 := 18) dL_areSlices_17 rfl rfl ?_
          refine r_iload_n (pc2 := 19) dL_areSlices_18 rfl rfl ?_
          refine r_aload_n (pc2 := 20) dL_areSlices_19 rfl rfl ?_
          refine r_aload_n (pc2 := 21) dL_areSlices_20 rfl rfl ?_
          refine r_iload_n (pc2 := 22) dL_areSlices_21 rfl rfl ?_
          refine r_callv_1 (pc2 := 25) dL_areSlices_22 rfl rs_99_15 rfl (by decide) rfl (Nat.le_of_ble_eq_true rfl) (Nat.le_of_ble_eq_true rfl) (by assumption) (by assumption) (ot_viewOf J k (by unfold RG; omega)) (fun r_ w_ h_ => ?_)
          obtain ⟨e_, J⟩ := h_
          rw [e_, hvw]
          clear e_ r_
          have n_ := J.1
          obtain ⟨⟨z0, f0, z0w⟩, z33, f33, z33w⟩ := J.cells
          refine ⟨by omega, ?_⟩
          refine r_calls_2 (pc2 := 28) dL_areSlices_25 rfl rs_99_18 rfl (by decide) rfl (Nat.le_of_ble_eq_true rfl) (Nat.le_of_ble_eq_true rfl) (l_thereT J (s k.toNat) (by unfold RG; omega)) (fun r_ w_ h_ => ?_)
          obtain ⟨e_, J⟩ := h_
          rw [e_, hth]
          clear e_ r_
          have n_ := J.1
          obtain ⟨⟨z0, f0, z0w⟩, z33, f33, z33w⟩ := J.cells
          have J0 := J
          refine ⟨by omega, ?_⟩
          refine r_callv_2 (pc2 := 31) dL_areSlices_28 rfl rs_99_24 rfl (by decide) rfl (Nat.le_of_ble_eq_true rfl) (Nat.le_of_ble_eq_true rfl) (by assumption) (by assumption) (pa_slice J k (v - 1 - s k.toNat) (by unfold RG; omega) (by unfold RG; omega)) (fun r_ w_ h_ => ?_)
          obtain ⟨e_, J⟩ := h_
          obtain ⟨y, s3, g1, g2, g3, g4, g5⟩ := m_sl1 J0.ku.1 (k := k) (x := v - 1 - s k.toNat) (by omega) (by omega)
          rw [g3] at J
          rw [e_, g1]
          clear e_ r_
          have n_ := J.1
          obtain ⟨⟨z0, f0, z0w⟩, z33, f33, z33w⟩ := J.cells
          refine ⟨by omega, ?_⟩
          refine r_bipush (pc2 := 33) dL_areSlices_31 rfl (by decide) ?_
          refine r_icmp_eq (pc2 := 36) (tgt := 40) dL_areSlices_33 rfl (by decide) (by omega) (by omega) (fun h33 => ?_) (fun h33 => ?_)
          · exfalso
            omega
          · refine r_iconst (pc2 := 37) dL_areSlices_36 rfl ?_
            refine r_goto (tgt := 41) dL_areSlices_37 (by decide) ?_
            refine r_ist_2 (pc2 := 42) dL_areSlices_41 rfl rfl ?_
            refine r_iinc_3 (pc2 := 45) dL_areSlices_42 rfl rfl ?_
            refine r_goto (tgt := 4) dL_areSlices_45 (by decide) ?_
            exact ih (k + 1) _ s3 (by omega) J (fun j hj => by
              by_cases q : j = k.toNat
              · rw [q, g4]
              · rw [g5 j q]
                exact hk2 j (by omega))
  refine r_iconst (pc2 := 1) dL_areSlices_0 rfl ?_
  refine r_ist_2 (pc2 := 2) dL_areSlices_1 rfl rfl ?_
  refine r_iconst (pc2 := 3) dL_areSlices_2 rfl ?_
  refine r_ist_3 (pc2 := 4) dL_areSlices_3 rfl rfl ?_
  exact lp (p.toNat + 1) 0 w s2 (by omega) J (fun j hj => by omega)

theorem l_areSlices (J : JJ sc w V U len len2 t t2) (h : PR V U) : cl ML_areSlices [.ref 0, .ref 33] w (fun r' w' => r' = some (.int (iN 1)) ∧ ∃ U2 : CV, JJ sc w' V U2 len len2 t t2 ∧ MR V U2) := by
  obtain ⟨v, p, sh, ln, pr, gd, co, c, s⟩ := V
  obtain ⟨v2, p2, sh2, ln2, pr2, gd2, co2, c2, s2⟩ := U
  obtain ⟨⟨rfl, rfl, rfl, rfl, rfl, rfl, rfl⟩, hc⟩ := h
  refine (l_areSlicesT J).imp (fun r' w' q => ?_)
  obtain ⟨e, s3, J3, h3⟩ := q
  exact ⟨e, _, J3, ⟨rfl, rfl, rfl, rfl, rfl, rfl, rfl⟩, hc, h3⟩
/-- both objects, mirrors of each other -/
def JM (sc : av_E) (w : av_W) : Prop := ∃ (V U : CV) (len len2 : Int) (t t2 : Nat → Int), JJ sc w V U len len2 t t2 ∧ MR V U
end L46
