/-! the class's world -/
/-- a card's values: views, pitch, shift, lean, pressed, good, cost, colours, slices -/
abbrev CV : Type := Int × Int × Int × Int × Int × Int × Int × (Nat → Int) × (Nat → Int)
def CdV (w : av_W) (a : Nat) (V : CV) : Prop := Cd w a (a + 1) (a + 2) V.1 V.2.1 V.2.2.1 V.2.2.2.1 V.2.2.2.2.1 V.2.2.2.2.2.1 V.2.2.2.2.2.2.1 V.2.2.2.2.2.2.2.1 V.2.2.2.2.2.2.2.2
def CVe (V U : CV) : Prop := (V.1 = U.1 ∧ V.2.1 = U.2.1 ∧ V.2.2.1 = U.2.2.1 ∧ V.2.2.2.1 = U.2.2.2.1 ∧ V.2.2.2.2.1 = U.2.2.2.2.1 ∧ V.2.2.2.2.2.1 = U.2.2.2.2.2.1 ∧ V.2.2.2.2.2.2.1 = U.2.2.2.2.2.2.1) ∧ (∀ j : Nat, j < 48 → V.2.2.2.2.2.2.2.1 j = U.2.2.2.2.2.2.2.1 j) ∧ ∀ j : Nat, j < 6 → V.2.2.2.2.2.2.2.2 j = U.2.2.2.2.2.2.2.2 j
def CdA (w : av_W) (a : Nat) (V : CV) : Prop := ∃ U : CV, CdV w a U ∧ CVe U V
def agO (lo hi : Nat) (w w2 : av_W) : Prop := w2.1 = w.1 ∧ ∀ k : Nat, (k < lo ∨ hi ≤ k) → w2.2.2 k = w.2.2 k
theorem agO.rf {lo hi : Nat} {w : av_W} : agO lo hi w w := ⟨rfl, fun _ _ => rfl⟩
theorem agO.trans {lo hi : Nat} {w w2 w3 : av_W} (h1 : agO lo hi w w2) (h2 : agO lo hi w2 w3) : agO lo hi w w3 := ⟨h2.1.trans h1.1, fun k hk => (h2.2 k hk).trans (h1.2 k hk)⟩
theorem agO.mono {lo hi lo2 hi2 : Nat} {w w2 : av_W} (h : agO lo hi w w2) (h1 : lo2 ≤ lo) (h2 : hi ≤ hi2) : agO lo2 hi2 w w2 := ⟨h.1, fun k hk => h.2 k (by omega)⟩
theorem agO.wst {lo hi : Nat} {w : av_W} {a : Nat} (e : av_E) (h : lo ≤ a ∧ a < hi) : agO lo hi w (wst w a e) := ⟨rfl, fun k hk => wst_ne (by omega)⟩
theorem agO.cdW {lo hi : Nat} {w : av_W} {a b c : Nat} (E A B : av_E) (h : (lo ≤ a ∧ a < hi) ∧ (lo ≤ b ∧ b < hi) ∧ (lo ≤ c ∧ c < hi)) : agO lo hi w (cdW w a b c E A B) := ⟨rfl, fun k hk => cdW_out (by omega) (by omega) (by omega)⟩
theorem agO_w2W {lo hi : Nat} {w : av_W} {a b : Nat} (A B : av_E) (h : (lo ≤ a ∧ a < hi) ∧ (lo ≤ b ∧ b < hi)) : agO lo hi w (w2W w a b A B) := by
  refine ⟨rfl, fun k hk => ?_⟩
  unfold w2W
  rw [wst_ne (by omega), wst_ne (by omega)]
theorem Cd.ag {w w2 : av_W} {a ca sa : Nat} {v p sh ln pr gd co : Int} {c s : Nat → Int} (h : Cd w a ca sa v p sh ln pr gd co c s) {lo hi : Nat} (g : agO lo hi w w2) (h1 : a < lo ∨ hi ≤ a) (h2 : ca < lo ∨ hi ≤ ca) (h3 : sa < lo ∨ hi ≤ sa) : Cd w2 a ca sa v p sh ln pr gd co c s := by
  obtain ⟨⟨q1, q2⟩, ⟨q3, q4⟩, ⟨q5, q6⟩, q7⟩ := h
  unfold Cd
  rw [g.1, g.2 a h1, g.2 ca h2, g.2 sa h3]
  exact ⟨⟨q1, q2⟩, ⟨q3, q4⟩, ⟨q5, q6⟩, q7⟩
theorem CdV.ag {w w2 : av_W} {a : Nat} {V : CV} (h : CdV w a V) {lo hi : Nat} (g : agO lo hi w w2) (h1 : a + 2 < lo ∨ hi ≤ a) : CdV w2 a V := Cd.ag h g (by omega) (by omega) (by omega)
theorem CdA.ag {w w2 : av_W} {a : Nat} {V : CV} (h : CdA w a V) {lo hi : Nat} (g : agO lo hi w w2) (h1 : a + 2 < lo ∨ hi ≤ a) : CdA w2 a V := by
  obtain ⟨U, hU, he⟩ := h
  exact ⟨U, hU.ag g h1, he⟩
theorem Sg.ag {w w2 : av_W} {a b ka sb : Nat} {f g : Nat → Int} (h : Sg w a b ka sb f g) {lo hi : Nat} (q : agO lo hi w w2) (h1 : b < lo ∨ hi ≤ b) (h2 : ka < lo ∨ hi ≤ ka) (h3 : sb < lo ∨ hi ≤ sb) : Sg w2 a b ka sb f g := by
  obtain ⟨⟨q1, q2⟩, ⟨q3, q4⟩, ⟨q5, q6⟩, q7⟩ := h
  unfold Sg
  rw [q.1, q.2 b h1, q.2 ka h2, q.2 sb h3]
  exact ⟨⟨q1, q2⟩, ⟨q3, q4⟩, ⟨q5, q6⟩, q7⟩
theorem Tx.ag {w w2 : av_W} {t ch : Nat} {len k : Int} {c : Nat → Int} (h : Tx w t ch len k c) {lo hi : Nat} (q : agO lo hi w w2) (h1 : t < lo ∨ hi ≤ t) (h2 : ch < lo ∨ hi ≤ ch) : Tx w2 t ch len k c := by
  obtain ⟨⟨q1, q2⟩, ⟨q3, q4⟩, q5⟩ := h
  unfold Tx
  rw [q.1, q.2 t h1, q.2 ch h2]
  exact ⟨⟨q1, q2⟩, ⟨q3, q4⟩, q5⟩
theorem CVe.rf (V : CV) : CVe V V := ⟨⟨rfl, rfl, rfl, rfl, rfl, rfl, rfl⟩, fun _ _ => rfl, fun _ _ => rfl⟩
theorem CVe.trans {V U X : CV} (h1 : CVe V U) (h2 : CVe U X) : CVe V X := by
  obtain ⟨⟨a1, a2, a3, a4, a5, a6, a7⟩, a8, a9⟩ := h1
  obtain ⟨⟨b1, b2, b3, b4, b5, b6, b7⟩, b8, b9⟩ := h2
  exact ⟨⟨a1.trans b1, a2.trans b2, a3.trans b3, a4.trans b4, a5.trans b5, a6.trans b6, a7.trans b7⟩, fun j hj => (a8 j hj).trans (b8 j hj), fun j hj => (a9 j hj).trans (b9 j hj)⟩
/-- a card behind a copy -/
def cpV (V U : CV) : CV := (U.1, U.2.1, U.2.2.1, U.2.2.2.1, U.2.2.2.2.1, U.2.2.2.2.2.1, U.2.2.2.2.2.2.1, preF 48 U.2.2.2.2.2.2.2.1 V.2.2.2.2.2.2.2.1, preF 6 U.2.2.2.2.2.2.2.2 V.2.2.2.2.2.2.2.2)
theorem cpV_e (V U : CV) : CVe (cpV V U) U := ⟨⟨rfl, rfl, rfl, rfl, rfl, rfl, rfl⟩, fun j hj => preF_lt (by omega), fun j hj => preF_lt (by omega)⟩
def cpW (w : av_W) (a : Nat) (V U : CV) : av_W := cdW w a (a + 1) (a + 2) (cdO (a + 1) (a + 2) U.1 U.2.1 U.2.2.1 U.2.2.2.1 U.2.2.2.2.1 U.2.2.2.2.2.1 U.2.2.2.2.2.2.1) (arO 48 (preF 48 U.2.2.2.2.2.2.2.1 V.2.2.2.2.2.2.2.1)) (arO 6 (preF 6 U.2.2.2.2.2.2.2.2 V.2.2.2.2.2.2.2.2))
theorem c_copyV (w : av_W) (a b : Nat) (V U : CV) (hV : CdV w a V) (hU : CdV w b U) (hab : a + 2 < b ∨ b + 2 < a) : fn MX0_copyFrom [.ref a, .ref b] w none (cpW w a V U) := c_copyFrom w a (a + 1) (a + 2) _ _ _ _ _ _ _ _ _ hV b (b + 1) (b + 2) _ _ _ _ _ _ _ _ _ hU (by omega) (by omega) (by omega)
theorem cpW_V {w : av_W} {a : Nat} {V U : CV} (hV : CdV w a V) : CdV (cpW w a V U) a (cpV V U) := Cd_cdW hV _ _ _ _ _ _ _ _ _
theorem cpW_ag {w : av_W} {a : Nat} {V U : CV} {lo hi : Nat} (h : lo ≤ a ∧ a + 2 < hi) : agO lo hi w (cpW w a V U) := agO.cdW _ _ _ (by omega)
/-- the history: n states, the oldest first -/
def HsP (w : av_W) (q : Nat) (n : Int) (L : Nat → CV) : Prop := w.2.2 14 = hsO n ∧ (∃ F : Nat → Option Nat, w.2.2 15 = rfO 4 F ∧ ∀ j : Nat, j < 4 → F j = some (16 + 3 * ((q + j) % 4))) ∧ ∀ j : Nat, j < 4 → CdA w (16 + 3 * ((q + j) % 4)) (L j)
theorem HsP.ag {w w2 : av_W} {q : Nat} {n : Int} {L : Nat → CV} (h : HsP w q n L) {lo hi : Nat} (g : agO lo hi w w2) (h1 : hi ≤ 14 ∨ 28 ≤ lo) : HsP w2 q n L := by
  obtain ⟨h14, ⟨F, h15, hF⟩, hc⟩ := h
  refine ⟨by rw [g.2 14 (by omega)]; exact h14, ⟨F, by rw [g.2 15 (by omega)]; exact h15, hF⟩, fun j hj => (hc j hj).ag g (by omega)⟩
def recN (n : Int) : Int := if n < 4 then n + 1 else 4
def recL (L : Nat → CV) (n : Int) (V : CV) : Nat → CV := if n < 4 then (fun j => if (j : Int) = n then V else L j) else (fun j => if j < 3 then L (j + 1) else V)
theorem CdV.cell {w : av_W} {a : Nat} {V : CV} (h : CdV w a V) : a < w.1 ∧ w.2.2 a = cdO (a + 1) (a + 2) V.1 V.2.1 V.2.2.1 V.2.2.2.1 V.2.2.2.2.1 V.2.2.2.2.2.1 V.2.2.2.2.2.2.1 := h.1

set_option maxHeartbeats 4000000 in
theorem c_record (w : av_W) (h33 : 33 ≤ w.1) (V : CV) (hV : CdV w 2 V) (q : Nat) (n : Int) (L : Nat → CV) (hH : HsP w q n L) (hn : 0 ≤ n ∧ n ≤ 4) : cl MX2_record [.ref 14, .ref 2] w (fun r' w' => r' = none ∧ agO 14 28 w w' ∧ ∃ q2 : Nat, HsP w' q2 (recN n) (recL L n V)) := by
  have k14 : 14 < w.1 := by omega
  have k15 : 15 < w.1 := by omega
  obtain ⟨h14, ⟨F, h15, hF⟩, hc⟩ := id hH
  show rn MX2_record 0 [some (.ref 14), some (.ref 2), none] [] w (fun r' w' => r' = none ∧ agO 14 28 w w' ∧ ∃ q2 : Nat, HsP w' q2 (recN n) (recL L n V))
  have rest : ∀ (wa : av_W) (q2 : Nat) (n2 : Int) (L2 : Nat → CV), agO 14 28 w wa → HsP wa q2 n2 L2 → (0 ≤ n2 ∧ n2 ≤ 3) → recN n = n2 + 1 → (recL L n V = fun j : Nat => if ((j : Nat) : Int) = n2 then V else L2 j) → rn MX2_record 12 [some (.ref 14), some (.ref 2), none] [] wa (fun r' w' => r' = none ∧ agO 14 28 w w' ∧ ∃ q2 : Nat, HsP w' q2 (recN n) (recL L n V)) := by
    intro wa q2 n2 L2 hag hP hn2 hrN hrL
    obtain ⟨g14, ⟨G, g15, hG⟩, gc⟩ := id hP
    have m33 : 33 ≤ wa.1 := by rw [hag.1]; exact h33
    have m14 : 14 < wa.1 := by omega
    have m1 : 2 < wa.1 := by omega
    have hVa : CdV wa 2 V := hV.ag hag (by omega)
    obtain ⟨U, hU, hUe⟩ := gc n2.toNat (by omega)
    have hr := hG n2.toNat (by omega)
    have hrr : 16 ≤ 16 + 3 * ((q2 + n2.toNat) % 4) ∧ 16 + 3 * ((q2 + n2.toNat) % 4) + 2 < 28 := by omega
    generalize hx : 16 + 3 * ((q2 + n2.toNat) % 4) = x at hr hU hrr
    obtain ⟨hxa, hxw⟩ := hU.cell
    refine r_aload_n (pc2 := 13) dX2_record_12 rfl rfl ?_
    refine r_aload_n (pc2 := 14) dX2_record_13 rfl rfl ?_
    refine r_getf (pc2 := 17) dX2_record_14 rfl fl_2_17 (by assumption) (by assumption) (by rfl) ?_
    refine r_callv_1 (pc2 := 20) dX2_record_17 rfl rs_2_25 rfl (by decide) rfl (Nat.le_of_ble_eq_true rfl) (Nat.le_of_ble_eq_true rfl) (by assumption) (by assumption) (c_stateAt wa m33 n2 g14 G g15 n2 (by omega) x hr) (fun r_ w_ h_ => ?_)
    rw [h_.1, h_.2]
    clear h_ w_ r_
    refine ⟨rfl, ?_⟩
    refine r_ast_2 (pc2 := 21) dX2_record_20 rfl rfl ?_
    refine r_aload_n (pc2 := 22) dX2_record_21 rfl rfl ?_
    refine r_ifnull (pc2 := 25) dX2_record_22 rfl ?_
    refine r_aload_n (pc2 := 26) dX2_record_25 rfl rfl ?_
    refine r_aload_n (pc2 := 27) dX2_record_26 rfl rfl ?_
    refine r_callv_1 (pc2 := 30) dX2_record_27 rfl rs_2_29 rfl (by decide) rfl (Nat.le_of_ble_eq_true rfl) (Nat.le_of_ble_eq_true rfl) (by assumption) (by assumption) (c_copyV wa x 2 U V hU hVa (by omega)) (fun r_ w_ h_ => ?_)
    rw [h_.1, h_.2]
    clear h_ w_ r_
    refine ⟨rfl, ?_⟩
    have m14b : 14 < (cpW wa x U V).1 := m14
    have g14b : (cpW wa x U V).2.2 14 = hsO n2 := by
      rw [(cpW_ag (lo := 16) (hi := 28) (by omega)).2 14 (by omega)]
      exact g14
    refine r_aload_n (pc2 := 31) dX2_record_30 rfl rfl ?_
    refine r_dup (pc2 := 32) dX2_record_31 rfl rfl ?_
    refine r_getf (pc2 := 35) dX2_record_32 rfl fl_2_17 (by assumption) (by assumption) (by rfl) ?_
    refine r_iconst (pc2 := 36) dX2_record_35 rfl ?_
    refine r_iadd (pc2 := 37) dX2_record_36 rfl ?_
    refine r_putf (pc2 := 40) dX2_record_37 rfl fl_2_17 (by assumption) (by assumption) (by exact Nat.le_of_ble_eq_true rfl) (by rfl) (by rfl) (by rfl) ?_
    refine r_retv dX2_record_40 rfl ?_
    have hag2 : agO 14 28 wa (wst (cpW wa x U V) 14 (hsO (n2 + 1))) := (cpW_ag (by omega)).trans (agO.wst _ (by omega))
    refine ⟨rfl, hag.trans hag2, q2, wst_self.trans (by rw [hrN]; rfl), ⟨G, ?_, hG⟩, fun j hj => ?_⟩
    · show (wst (cpW wa x U V) 14 (hsO (n2 + 1))).2.2 15 = _
      rw [wst_ne (by decide), (cpW_ag (lo := 16) (hi := 28) (by omega)).2 15 (by omega)]
      exact g15
    · rw [hrL]
      show CdA _ _ (if ((j : Nat) : Int) = n2 then V else L2 j)
      have hag3 : agO 14 15 (cpW wa x U V) (wst (cpW wa x U V) 14 (hsO (n2 + 1))) := agO.wst _ (by omega)
      by_cases hj2 : (j : Int) = n2
      · rw [if_pos hj2]
        have hjx : 16 + 3 * ((q2 + j) % 4) = x := by rw [← hx, show n2.toNat = j by omega]
        rw [hjx]
        exact ⟨cpV U V, (cpW_V hU).ag hag3 (by omega), cpV_e U V⟩
      · rw [if_neg hj2]
        have hag4 : agO x (x + 3) wa (cpW wa x U V) := cpW_ag (by omega)
        exact ((gc j hj).ag hag4 (by omega)).ag hag3 (by omega)
  refine r_aload_n (pc2 := 1) dX2_record_0 rfl rfl ?_
  refine r_getf (pc2 := 4) dX2_record_1 rfl fl_2_17 (by assumption) (by assumption) (by rfl) ?_
  refine r_iconst (pc2 := 5) dX2_record_4 rfl ?_
  refine r_icmp_lt (pc2 := 8) (tgt := 12) dX2_record_5 rfl (by decide) (by omega) (by omega) (fun h5 => ?_) (fun h5 => ?_)
  · exact rest w q n L agO.rf hH (by omega) (by unfold recN; rw [if_pos (by omega)]) (by unfold recL; rw [if_pos (by omega)])
  · have hFx : ∀ j : Nat, j < 4 → ∃ (r : Nat) (fs : List Value), F j = some r ∧ r < w.1 ∧ r ≠ 15 ∧ w.2.2 r = .inr (0, fs) := fun j hj => by
      obtain ⟨U, hU, -⟩ := hc j hj
      exact ⟨_, _, hF j hj, hU.cell.1, by omega, hU.cell.2⟩
    refine r_aload_n (pc2 := 9) dX2_record_8 rfl rfl ?_
    refine r_callv_0 (pc2 := 12) dX2_record_9 rfl rs_2_22 rfl (by decide) rfl (Nat.le_of_ble_eq_true rfl) (Nat.le_of_ble_eq_true rfl) (by assumption) (by assumption) (c_dropOldest w h33 n h14 F h15 hFx) (fun r_ w_ h_ => ?_)
    rw [h_.1, h_.2]
    clear h_ w_ r_
    refine ⟨rfl, ?_⟩
    have hn4 : n = 4 := by omega
    have hagd : agO 14 16 w (wst (wst w 15 (rfO 4 (rotF F))) 14 (hsO (n - 1))) := (agO.wst _ (by omega)).trans (agO.wst _ (by omega))
    refine rest _ (q + 1) (n - 1) (fun j => if j < 3 then L (j + 1) else if j = 3 then L 0 else V) (hagd.mono (by omega) (by omega)) ⟨wst_self, ⟨rotF F, by rw [wst_ne (by decide)]; exact wst_self, fun j hj => ?_⟩, fun j hj => ?_⟩ (by omega) (by unfold recN; rw [if_neg (by omega)]; omega) ?_
    · unfold rotF
      by_cases h3 : j < 3
      · rw [if_pos h3, hF (j + 1) (by omega)]
        congr 3
        omega
      · rw [if_neg h3, if_pos (by omega), hF 0 (by omega)]
        congr 2
        omega
    · show CdA _ _ (if j < 3 then L (j + 1) else if j = 3 then L 0 else V)
      by_cases h3 : j < 3
      · rw [if_pos h3, show (q + 1 + j) % 4 = (q + (j + 1)) % 4 by omega]
        exact (hc (j + 1) (by omega)).ag hagd (by omega)
      · rw [if_neg h3, if_pos (by omega), show (q + 1 + j) % 4 = (q + 0) % 4 by omega]
        exact (hc 0 (by omega)).ag hagd (by omega)
    · unfold recL
      rw [if_neg (by omega)]
      funext j
      by_cases h3 : j < 3
      · rw [if_pos h3, if_neg (by omega), if_pos h3]
      · rw [if_neg h3]
        by_cases h4 : j = 3
        · subst h4
          rw [if_pos (by omega)]
        · rw [if_neg (by omega), if_neg h3, if_neg h4]

abbrev maO (hs : Int) : av_E := .inr (4, [.ref 1, .ref 2, .ref 7, .ref 8, .ref 13, .ref 14, .ref 28, .int (iN hs), .ref 31])
/-- the class's world: the card, the history, the snapshot, the text; what serves for trials is any -/
def CLS (w : av_W) (V : CV) (L : Nat → CV) (n : Int) (S : CV) (hs len : Int) (t : Nat → Int) : Prop :=
  33 ≤ w.1 ∧ w.2.2 0 = maO hs ∧ CdV w 2 V ∧ (∃ f g, Sg w 2 1 5 6 f g) ∧ (∃ T, CdV w 8 T) ∧ (∃ f g, Sg w 8 7 11 12 f g) ∧ (∃ b, w.2.2 13 = arO 6 b) ∧ (∃ q, HsP w q n L) ∧ CdA w 28 S ∧ ∃ k, Tx w 31 32 len k t

theorem CLS_main {w w2 : av_W} {V : CV} {L : Nat → CV} {n : Int} {S : CV} {hs len : Int} {t : Nat → Int} (h0 : CLS w V L n S hs len t) (g : agO 0 1 w w2) (hs2 : Int) (h : w2.2.2 0 = maO hs2) : CLS w2 V L n S hs2 len t := by
  obtain ⟨a0, a1, a2, ⟨f3, g3, a3⟩, ⟨f4, a4⟩, ⟨f5, g5, a5⟩, ⟨f6, a6⟩, ⟨f7, a7⟩, a8, ⟨f9, a9⟩⟩ := h0
  exact ⟨by rw [g.1]; exact a0, h, a2.ag g (by omega), ⟨_, _, a3.ag g (by omega) (by omega) (by omega)⟩, ⟨_, a4.ag g (by omega)⟩, ⟨_, _, a5.ag g (by omega) (by omega) (by omega)⟩, ⟨_, (g.2 13 (by omega)).trans a6⟩, ⟨_, a7.ag g (by omega)⟩, a8.ag g (by omega), ⟨_, a9.ag g (by omega) (by omega)⟩⟩

theorem CLS_card {w w2 : av_W} {V : CV} {L : Nat → CV} {n : Int} {S : CV} {hs len : Int} {t : Nat → Int} (h0 : CLS w V L n S hs len t) (g : agO 2 5 w w2) (V2 : CV) (h : CdV w2 2 V2) : CLS w2 V2 L n S hs len t := by
  obtain ⟨a0, a1, a2, ⟨f3, g3, a3⟩, ⟨f4, a4⟩, ⟨f5, g5, a5⟩, ⟨f6, a6⟩, ⟨f7, a7⟩, a8, ⟨f9, a9⟩⟩ := h0
  exact ⟨by rw [g.1]; exact a0, (g.2 0 (by omega)).trans a1, h, ⟨_, _, a3.ag g (by omega) (by omega) (by omega)⟩, ⟨_, a4.ag g (by omega)⟩, ⟨_, _, a5.ag g (by omega) (by omega) (by omega)⟩, ⟨_, (g.2 13 (by omega)).trans a6⟩, ⟨_, a7.ag g (by omega)⟩, a8.ag g (by omega), ⟨_, a9.ag g (by omega) (by omega)⟩⟩

theorem CLS_sight {w w2 : av_W} {V : CV} {L : Nat → CV} {n : Int} {S : CV} {hs len : Int} {t : Nat → Int} (h0 : CLS w V L n S hs len t) (g : agO 5 7 w w2) (h : ∃ f g, Sg w2 2 1 5 6 f g) : CLS w2 V L n S hs len t := by
  obtain ⟨a0, a1, a2, ⟨f3, g3, a3⟩, ⟨f4, a4⟩, ⟨f5, g5, a5⟩, ⟨f6, a6⟩, ⟨f7, a7⟩, a8, ⟨f9, a9⟩⟩ := h0
  exact ⟨by rw [g.1]; exact a0, (g.2 0 (by omega)).trans a1, a2.ag g (by omega), h, ⟨_, a4.ag g (by omega)⟩, ⟨_, _, a5.ag g (by omega) (by omega) (by omega)⟩, ⟨_, (g.2 13 (by omega)).trans a6⟩, ⟨_, a7.ag g (by omega)⟩, a8.ag g (by omega), ⟨_, a9.ag g (by omega) (by omega)⟩⟩

theorem CLS_trial {w w2 : av_W} {V : CV} {L : Nat → CV} {n : Int} {S : CV} {hs len : Int} {t : Nat → Int} (h0 : CLS w V L n S hs len t) (g : agO 8 11 w w2) (h : ∃ T, CdV w2 8 T) : CLS w2 V L n S hs len t := by
  obtain ⟨a0, a1, a2, ⟨f3, g3, a3⟩, ⟨f4, a4⟩, ⟨f5, g5, a5⟩, ⟨f6, a6⟩, ⟨f7, a7⟩, a8, ⟨f9, a9⟩⟩ := h0
  exact ⟨by rw [g.1]; exact a0, (g.2 0 (by omega)).trans a1, a2.ag g (by omega), ⟨_, _, a3.ag g (by omega) (by omega) (by omega)⟩, h, ⟨_, _, a5.ag g (by omega) (by omega) (by omega)⟩, ⟨_, (g.2 13 (by omega)).trans a6⟩, ⟨_, a7.ag g (by omega)⟩, a8.ag g (by omega), ⟨_, a9.ag g (by omega) (by omega)⟩⟩

theorem CLS_tsight {w w2 : av_W} {V : CV} {L : Nat → CV} {n : Int} {S : CV} {hs len : Int} {t : Nat → Int} (h0 : CLS w V L n S hs len t) (g : agO 11 13 w w2) (h : ∃ f g, Sg w2 8 7 11 12 f g) : CLS w2 V L n S hs len t := by
  obtain ⟨a0, a1, a2, ⟨f3, g3, a3⟩, ⟨f4, a4⟩, ⟨f5, g5, a5⟩, ⟨f6, a6⟩, ⟨f7, a7⟩, a8, ⟨f9, a9⟩⟩ := h0
  exact ⟨by rw [g.1]; exact a0, (g.2 0 (by omega)).trans a1, a2.ag g (by omega), ⟨_, _, a3.ag g (by omega) (by omega) (by omega)⟩, ⟨_, a4.ag g (by omega)⟩, h, ⟨_, (g.2 13 (by omega)).trans a6⟩, ⟨_, a7.ag g (by omega)⟩, a8.ag g (by omega), ⟨_, a9.ag g (by omega) (by omega)⟩⟩

theorem CLS_best {w w2 : av_W} {V : CV} {L : Nat → CV} {n : Int} {S : CV} {hs len : Int} {t : Nat → Int} (h0 : CLS w V L n S hs len t) (g : agO 13 14 w w2) (h : ∃ b, w2.2.2 13 = arO 6 b) : CLS w2 V L n S hs len t := by
  obtain ⟨a0, a1, a2, ⟨f3, g3, a3⟩, ⟨f4, a4⟩, ⟨f5, g5, a5⟩, ⟨f6, a6⟩, ⟨f7, a7⟩, a8, ⟨f9, a9⟩⟩ := h0
  exact ⟨by rw [g.1]; exact a0, (g.2 0 (by omega)).trans a1, a2.ag g (by omega), ⟨_, _, a3.ag g (by omega) (by omega) (by omega)⟩, ⟨_, a4.ag g (by omega)⟩, ⟨_, _, a5.ag g (by omega) (by omega) (by omega)⟩, h, ⟨_, a7.ag g (by omega)⟩, a8.ag g (by omega), ⟨_, a9.ag g (by omega) (by omega)⟩⟩

theorem CLS_hist {w w2 : av_W} {V : CV} {L : Nat → CV} {n : Int} {S : CV} {hs len : Int} {t : Nat → Int} (h0 : CLS w V L n S hs len t) (g : agO 14 28 w w2) (n2 : Int) (L2 : Nat → CV) (h : ∃ q, HsP w2 q n2 L2) : CLS w2 V L2 n2 S hs len t := by
  obtain ⟨a0, a1, a2, ⟨f3, g3, a3⟩, ⟨f4, a4⟩, ⟨f5, g5, a5⟩, ⟨f6, a6⟩, ⟨f7, a7⟩, a8, ⟨f9, a9⟩⟩ := h0
  exact ⟨by rw [g.1]; exact a0, (g.2 0 (by omega)).trans a1, a2.ag g (by omega), ⟨_, _, a3.ag g (by omega) (by omega) (by omega)⟩, ⟨_, a4.ag g (by omega)⟩, ⟨_, _, a5.ag g (by omega) (by omega) (by omega)⟩, ⟨_, (g.2 13 (by omega)).trans a6⟩, h, a8.ag g (by omega), ⟨_, a9.ag g (by omega) (by omega)⟩⟩

theorem CLS_snap {w w2 : av_W} {V : CV} {L : Nat → CV} {n : Int} {S : CV} {hs len : Int} {t : Nat → Int} (h0 : CLS w V L n S hs len t) (g : agO 28 31 w w2) (S2 : CV) (h : CdA w2 28 S2) : CLS w2 V L n S2 hs len t := by
  obtain ⟨a0, a1, a2, ⟨f3, g3, a3⟩, ⟨f4, a4⟩, ⟨f5, g5, a5⟩, ⟨f6, a6⟩, ⟨f7, a7⟩, a8, ⟨f9, a9⟩⟩ := h0
  exact ⟨by rw [g.1]; exact a0, (g.2 0 (by omega)).trans a1, a2.ag g (by omega), ⟨_, _, a3.ag g (by omega) (by omega) (by omega)⟩, ⟨_, a4.ag g (by omega)⟩, ⟨_, _, a5.ag g (by omega) (by omega) (by omega)⟩, ⟨_, (g.2 13 (by omega)).trans a6⟩, ⟨_, a7.ag g (by omega)⟩, h, ⟨_, a9.ag g (by omega) (by omega)⟩⟩

theorem CLS_text {w w2 : av_W} {V : CV} {L : Nat → CV} {n : Int} {S : CV} {hs len : Int} {t : Nat → Int} (h0 : CLS w V L n S hs len t) (g : agO 31 33 w w2) (len2 : Int) (t2 : Nat → Int) (h : ∃ k, Tx w2 31 32 len2 k t2) : CLS w2 V L n S hs len2 t2 := by
  obtain ⟨a0, a1, a2, ⟨f3, g3, a3⟩, ⟨f4, a4⟩, ⟨f5, g5, a5⟩, ⟨f6, a6⟩, ⟨f7, a7⟩, a8, ⟨f9, a9⟩⟩ := h0
  exact ⟨by rw [g.1]; exact a0, (g.2 0 (by omega)).trans a1, a2.ag g (by omega), ⟨_, _, a3.ag g (by omega) (by omega) (by omega)⟩, ⟨_, a4.ag g (by omega)⟩, ⟨_, _, a5.ag g (by omega) (by omega) (by omega)⟩, ⟨_, (g.2 13 (by omega)).trans a6⟩, ⟨_, a7.ag g (by omega)⟩, a8.ag g (by omega), h⟩
