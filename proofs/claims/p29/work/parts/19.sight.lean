/-! copying a card; the Sight of a card -/
theorem cdW_a (w : av_W) {a ca sa : Nat} (E A B E2 : av_E) (h1 : a ≠ ca) (h2 : a ≠ sa) : wst (cdW w a ca sa E A B) a E2 = cdW w a ca sa E2 A B := by
  unfold cdW
  rw [wst_comm _ B E2 (fun q => h2 q.symm), wst_comm _ A E2 (fun q => h1 q.symm), wst_wst]
theorem cdW_ca (w : av_W) {a ca sa : Nat} (E A B A2 : av_E) (h : ca ≠ sa) : wst (cdW w a ca sa E A B) ca A2 = cdW w a ca sa E A2 B := by
  unfold cdW
  rw [wst_comm _ B A2 (fun q => h q.symm), wst_wst]
theorem cdW_sa (w : av_W) (a ca sa : Nat) (E A B B2 : av_E) : wst (cdW w a ca sa E A B) sa B2 = cdW w a ca sa E A B2 := by
  unfold cdW
  rw [wst_wst]
theorem cdW_id {w : av_W} {a ca sa : Nat} {E A B : av_E} (h1 : w.2.2 a = E) (h2 : w.2.2 ca = A) (h3 : w.2.2 sa = B) : cdW w a ca sa E A B = w := by
  unfold cdW
  rw [wst_id h1, wst_id h2, wst_id h3]
theorem cdW_out {w : av_W} {a ca sa b : Nat} {E A B : av_E} (h1 : b ≠ a) (h2 : b ≠ ca) (h3 : b ≠ sa) : (cdW w a ca sa E A B).2.2 b = w.2.2 b := by
  unfold cdW
  rw [wst_ne h3, wst_ne h2, wst_ne h1]
theorem cdW_at_a {w : av_W} {a ca sa : Nat} {E A B : av_E} (h1 : a ≠ ca) (h2 : a ≠ sa) : (cdW w a ca sa E A B).2.2 a = E := by
  unfold cdW
  rw [wst_ne h2, wst_ne h1, wst_self]
theorem cdW_at_ca {w : av_W} {a ca sa : Nat} {E A B : av_E} (h : ca ≠ sa) : (cdW w a ca sa E A B).2.2 ca = A := by
  unfold cdW
  rw [wst_ne h, wst_self]
theorem cdW_at_sa {w : av_W} {a ca sa : Nat} {E A B : av_E} : (cdW w a ca sa E A B).2.2 sa = B := wst_self
theorem cdW_n (w : av_W) (a ca sa : Nat) (E A B : av_E) : (cdW w a ca sa E A B).1 = w.1 := rfl
theorem Cd_cdW {w : av_W} {a ca sa : Nat} {v p sh ln pr gd co : Int} {c s : Nat → Int} (h : Cd w a ca sa v p sh ln pr gd co c s) (v2 p2 sh2 ln2 pr2 gd2 co2 : Int) (c2 s2 : Nat → Int) : Cd (cdW w a ca sa (cdO ca sa v2 p2 sh2 ln2 pr2 gd2 co2) (arO 48 c2) (arO 6 s2)) a ca sa v2 p2 sh2 ln2 pr2 gd2 co2 c2 s2 := ((h.obj v2 p2 sh2 ln2 pr2 gd2 co2).col c2).slc s2
theorem Cd_cdWo {w : av_W} {a ca sa : Nat} {v p sh ln pr gd co : Int} {c s : Nat → Int} (h : Cd w a ca sa v p sh ln pr gd co c s) {b cb sb : Nat} (E A B : av_E) (h1 : b ≠ a ∧ b ≠ ca ∧ b ≠ sa) (h2 : cb ≠ a ∧ cb ≠ ca ∧ cb ≠ sa) (h3 : sb ≠ a ∧ sb ≠ ca ∧ sb ≠ sa) : Cd (cdW w b cb sb E A B) a ca sa v p sh ln pr gd co c s := ((h.out E h1.1.symm h1.2.1.symm h1.2.2.symm).out A h2.1.symm h2.2.1.symm h2.2.2.symm).out B h3.1.symm h3.2.1.symm h3.2.2.symm

set_option maxHeartbeats 4000000 in
theorem c_copyFrom (w : av_W) (a ca sa : Nat) (v p sh ln pr gd co : Int) (c s : Nat → Int) (hC : Cd w a ca sa v p sh ln pr gd co c s) (b cb sb : Nat) (v2 p2 sh2 ln2 pr2 gd2 co2 : Int) (c2 s2 : Nat → Int) (hC2 : Cd w b cb sb v2 p2 sh2 ln2 pr2 gd2 co2 c2 s2) (h1 : b ≠ a ∧ b ≠ ca ∧ b ≠ sa) (h2 : cb ≠ a ∧ cb ≠ ca ∧ cb ≠ sa) (h3 : sb ≠ a ∧ sb ≠ ca ∧ sb ≠ sa) : fn MX0_copyFrom [.ref a, .ref b] w none (cdW w a ca sa (cdO ca sa v2 p2 sh2 ln2 pr2 gd2 co2) (arO 48 (preF 48 c2 c)) (arO 6 (preF 6 s2 s))) := by
  obtain ⟨⟨ha, hw⟩, ⟨hca, hcw⟩, ⟨hsa, hsw⟩, hne1, hne2, hne3⟩ := id hC
  obtain ⟨⟨hb, hbw⟩, ⟨hcb, hcbw⟩, ⟨hsb, hsbw⟩, hng1, hng2, hng3⟩ := id hC2
  show rn MX0_copyFrom 0 [some (.ref a), some (.ref b)] [] w _
  have hw0 : w = (cdW w a ca sa (cdO ca sa v p sh ln pr gd co) (arO 48 c) (arO 6 s)) := (cdW_id hw hcw hsw).symm
  rw [hw0]
  have ka0 : a < ((cdW w a ca sa (cdO ca sa v p sh ln pr gd co) (arO 48 c) (arO 6 s))).1 := ha
  have kw0 : ((cdW w a ca sa (cdO ca sa v p sh ln pr gd co) (arO 48 c) (arO 6 s))).2.2 a = _ := cdW_at_a hne1 hne2
  have kb0 : b < ((cdW w a ca sa (cdO ca sa v p sh ln pr gd co) (arO 48 c) (arO 6 s))).1 := hb
  have kx0 : ((cdW w a ca sa (cdO ca sa v p sh ln pr gd co) (arO 48 c) (arO 6 s))).2.2 b = _ := (cdW_out h1.1 h1.2.1 h1.2.2).trans hbw
  refine r_aload_n (pc2 := 1) dX0_copyFrom_0 rfl rfl ?_
  refine r_aload_n (pc2 := 2) dX0_copyFrom_1 rfl rfl ?_
  refine r_getf (pc2 := 5) dX0_copyFrom_2 rfl fl_0_9 (by assumption) (by assumption) (by rfl) ?_
  refine r_putf (pc2 := 8) dX0_copyFrom_5 rfl fl_0_9 (by assumption) (by assumption) (by exact Nat.le_of_ble_eq_true rfl) (by rfl) (by rfl) (by rfl) ?_
  rw [cdW_a _ _ _ _ _ hne1 hne2]
  show rn _ _ _ _ (cdW w a ca sa (cdO ca sa v2 p sh ln pr gd co) (arO 48 c) (arO 6 s)) _
  have ka1 : a < ((cdW w a ca sa (cdO ca sa v2 p sh ln pr gd co) (arO 48 c) (arO 6 s))).1 := ha
  have kw1 : ((cdW w a ca sa (cdO ca sa v2 p sh ln pr gd co) (arO 48 c) (arO 6 s))).2.2 a = _ := cdW_at_a hne1 hne2
  have kb1 : b < ((cdW w a ca sa (cdO ca sa v2 p sh ln pr gd co) (arO 48 c) (arO 6 s))).1 := hb
  have kx1 : ((cdW w a ca sa (cdO ca sa v2 p sh ln pr gd co) (arO 48 c) (arO 6 s))).2.2 b = _ := (cdW_out h1.1 h1.2.1 h1.2.2).trans hbw
  refine r_aload_n (pc2 := 9) dX0_copyFrom_8 rfl rfl ?_
  refine r_getf (pc2 := 12) dX0_copyFrom_9 rfl fl_0_15 (by assumption) (by assumption) (by rfl) ?_
  refine r_aload_n (pc2 := 13) dX0_copyFrom_12 rfl rfl ?_
  refine r_getf (pc2 := 16) dX0_copyFrom_13 rfl fl_0_15 (by assumption) (by assumption) (by rfl) ?_
  refine r_calls_2 (pc2 := 19) dX0_copyFrom_16 rfl rs_0_43 rfl (by decide) rfl (Nat.le_of_ble_eq_true rfl) (Nat.le_of_ble_eq_true rfl) (c_copyNumbers _ cb ca 48 c2 c hcb ((cdW_out h2.1 h2.2.1 h2.2.2).trans hcbw) hca (cdW_at_ca hne3) h2.2.1 (by omega)) (fun r_ w_ h_ => ?_)
  rw [h_.1, h_.2]
  clear h_ w_ r_
  refine ⟨rfl, ?_⟩
  rw [cdW_ca _ _ _ _ _ hne3]
  show rn _ _ _ _ (cdW w a ca sa (cdO ca sa v2 p sh ln pr gd co) (arO 48 (preF 48 c2 c)) (arO 6 s)) _
  have ka2 : a < ((cdW w a ca sa (cdO ca sa v2 p sh ln pr gd co) (arO 48 (preF 48 c2 c)) (arO 6 s))).1 := ha
  have kw2 : ((cdW w a ca sa (cdO ca sa v2 p sh ln pr gd co) (arO 48 (preF 48 c2 c)) (arO 6 s))).2.2 a = _ := cdW_at_a hne1 hne2
  have kb2 : b < ((cdW w a ca sa (cdO ca sa v2 p sh ln pr gd co) (arO 48 (preF 48 c2 c)) (arO 6 s))).1 := hb
  have kx2 : ((cdW w a ca sa (cdO ca sa v2 p sh ln pr gd co) (arO 48 (preF 48 c2 c)) (arO 6 s))).2.2 b = _ := (cdW_out h1.1 h1.2.1 h1.2.2).trans hbw
  refine r_aload_n (pc2 := 20) dX0_copyFrom_19 rfl rfl ?_
  refine r_aload_n (pc2 := 21) dX0_copyFrom_20 rfl rfl ?_
  refine r_getf (pc2 := 24) dX0_copyFrom_21 rfl fl_0_19 (by assumption) (by assumption) (by rfl) ?_
  refine r_putf (pc2 := 27) dX0_copyFrom_24 rfl fl_0_19 (by assumption) (by assumption) (by exact Nat.le_of_ble_eq_true rfl) (by rfl) (by rfl) (by rfl) ?_
  rw [cdW_a _ _ _ _ _ hne1 hne2]
  show rn _ _ _ _ (cdW w a ca sa (cdO ca sa v2 p2 sh ln pr gd co) (arO 48 (preF 48 c2 c)) (arO 6 s)) _
  have ka3 : a < ((cdW w a ca sa (cdO ca sa v2 p2 sh ln pr gd co) (arO 48 (preF 48 c2 c)) (arO 6 s))).1 := ha
  have kw3 : ((cdW w a ca sa (cdO ca sa v2 p2 sh ln pr gd co) (arO 48 (preF 48 c2 c)) (arO 6 s))).2.2 a = _ := cdW_at_a hne1 hne2
  have kb3 : b < ((cdW w a ca sa (cdO ca sa v2 p2 sh ln pr gd co) (arO 48 (preF 48 c2 c)) (arO 6 s))).1 := hb
  have kx3 : ((cdW w a ca sa (cdO ca sa v2 p2 sh ln pr gd co) (arO 48 (preF 48 c2 c)) (arO 6 s))).2.2 b = _ := (cdW_out h1.1 h1.2.1 h1.2.2).trans hbw
  refine r_aload_n (pc2 := 28) dX0_copyFrom_27 rfl rfl ?_
  refine r_getf (pc2 := 31) dX0_copyFrom_28 rfl fl_0_22 (by assumption) (by assumption) (by rfl) ?_
  refine r_aload_n (pc2 := 32) dX0_copyFrom_31 rfl rfl ?_
  refine r_getf (pc2 := 35) dX0_copyFrom_32 rfl fl_0_22 (by assumption) (by assumption) (by rfl) ?_
  refine r_calls_2 (pc2 := 38) dX0_copyFrom_35 rfl rs_0_43 rfl (by decide) rfl (Nat.le_of_ble_eq_true rfl) (Nat.le_of_ble_eq_true rfl) (c_copyNumbers _ sb sa 6 s2 s hsb ((cdW_out h3.1 h3.2.1 h3.2.2).trans hsbw) hsa cdW_at_sa h3.2.2 (by omega)) (fun r_ w_ h_ => ?_)
  rw [h_.1, h_.2]
  clear h_ w_ r_
  refine ⟨rfl, ?_⟩
  rw [cdW_sa]
  show rn _ _ _ _ (cdW w a ca sa (cdO ca sa v2 p2 sh ln pr gd co) (arO 48 (preF 48 c2 c)) (arO 6 (preF 6 s2 s))) _
  have ka4 : a < ((cdW w a ca sa (cdO ca sa v2 p2 sh ln pr gd co) (arO 48 (preF 48 c2 c)) (arO 6 (preF 6 s2 s)))).1 := ha
  have kw4 : ((cdW w a ca sa (cdO ca sa v2 p2 sh ln pr gd co) (arO 48 (preF 48 c2 c)) (arO 6 (preF 6 s2 s)))).2.2 a = _ := cdW_at_a hne1 hne2
  have kb4 : b < ((cdW w a ca sa (cdO ca sa v2 p2 sh ln pr gd co) (arO 48 (preF 48 c2 c)) (arO 6 (preF 6 s2 s)))).1 := hb
  have kx4 : ((cdW w a ca sa (cdO ca sa v2 p2 sh ln pr gd co) (arO 48 (preF 48 c2 c)) (arO 6 (preF 6 s2 s)))).2.2 b = _ := (cdW_out h1.1 h1.2.1 h1.2.2).trans hbw
  refine r_aload_n (pc2 := 39) dX0_copyFrom_38 rfl rfl ?_
  refine r_aload_n (pc2 := 40) dX0_copyFrom_39 rfl rfl ?_
  refine r_getf (pc2 := 43) dX0_copyFrom_40 rfl fl_0_25 (by assumption) (by assumption) (by rfl) ?_
  refine r_putf (pc2 := 46) dX0_copyFrom_43 rfl fl_0_25 (by assumption) (by assumption) (by exact Nat.le_of_ble_eq_true rfl) (by rfl) (by rfl) (by rfl) ?_
  rw [cdW_a _ _ _ _ _ hne1 hne2]
  show rn _ _ _ _ (cdW w a ca sa (cdO ca sa v2 p2 sh2 ln pr gd co) (arO 48 (preF 48 c2 c)) (arO 6 (preF 6 s2 s))) _
  have ka5 : a < ((cdW w a ca sa (cdO ca sa v2 p2 sh2 ln pr gd co) (arO 48 (preF 48 c2 c)) (arO 6 (preF 6 s2 s)))).1 := ha
  have kw5 : ((cdW w a ca sa (cdO ca sa v2 p2 sh2 ln pr gd co) (arO 48 (preF 48 c2 c)) (arO 6 (preF 6 s2 s)))).2.2 a = _ := cdW_at_a hne1 hne2
  have kb5 : b < ((cdW w a ca sa (cdO ca sa v2 p2 sh2 ln pr gd co) (arO 48 (preF 48 c2 c)) (arO 6 (preF 6 s2 s)))).1 := hb
  have kx5 : ((cdW w a ca sa (cdO ca sa v2 p2 sh2 ln pr gd co) (arO 48 (preF 48 c2 c)) (arO 6 (preF 6 s2 s)))).2.2 b = _ := (cdW_out h1.1 h1.2.1 h1.2.2).trans hbw
  refine r_aload_n (pc2 := 47) dX0_copyFrom_46 rfl rfl ?_
  refine r_aload_n (pc2 := 48) dX0_copyFrom_47 rfl rfl ?_
  refine r_getf (pc2 := 51) dX0_copyFrom_48 rfl fl_0_28 (by assumption) (by assumption) (by rfl) ?_
  refine r_putf (pc2 := 54) dX0_copyFrom_51 rfl fl_0_28 (by assumption) (by assumption) (by exact Nat.le_of_ble_eq_true rfl) (by rfl) (by rfl) (by rfl) ?_
  rw [cdW_a _ _ _ _ _ hne1 hne2]
  show rn _ _ _ _ (cdW w a ca sa (cdO ca sa v2 p2 sh2 ln2 pr gd co) (arO 48 (preF 48 c2 c)) (arO 6 (preF 6 s2 s))) _
  have ka6 : a < ((cdW w a ca sa (cdO ca sa v2 p2 sh2 ln2 pr gd co) (arO 48 (preF 48 c2 c)) (arO 6 (preF 6 s2 s)))).1 := ha
  have kw6 : ((cdW w a ca sa (cdO ca sa v2 p2 sh2 ln2 pr gd co) (arO 48 (preF 48 c2 c)) (arO 6 (preF 6 s2 s)))).2.2 a = _ := cdW_at_a hne1 hne2
  have kb6 : b < ((cdW w a ca sa (cdO ca sa v2 p2 sh2 ln2 pr gd co) (arO 48 (preF 48 c2 c)) (arO 6 (preF 6 s2 s)))).1 := hb
  have kx6 : ((cdW w a ca sa (cdO ca sa v2 p2 sh2 ln2 pr gd co) (arO 48 (preF 48 c2 c)) (arO 6 (preF 6 s2 s)))).2.2 b = _ := (cdW_out h1.1 h1.2.1 h1.2.2).trans hbw
  refine r_aload_n (pc2 := 55) dX0_copyFrom_54 rfl rfl ?_
  refine r_aload_n (pc2 := 56) dX0_copyFrom_55 rfl rfl ?_
  refine r_getf (pc2 := 59) dX0_copyFrom_56 rfl fl_0_31 (by assumption) (by assumption) (by rfl) ?_
  refine r_putf (pc2 := 62) dX0_copyFrom_59 rfl fl_0_31 (by assumption) (by assumption) (by exact Nat.le_of_ble_eq_true rfl) (by rfl) (by rfl) (by rfl) ?_
  rw [cdW_a _ _ _ _ _ hne1 hne2]
  show rn _ _ _ _ (cdW w a ca sa (cdO ca sa v2 p2 sh2 ln2 pr2 gd co) (arO 48 (preF 48 c2 c)) (arO 6 (preF 6 s2 s))) _
  have ka7 : a < ((cdW w a ca sa (cdO ca sa v2 p2 sh2 ln2 pr2 gd co) (arO 48 (preF 48 c2 c)) (arO 6 (preF 6 s2 s)))).1 := ha
  have kw7 : ((cdW w a ca sa (cdO ca sa v2 p2 sh2 ln2 pr2 gd co) (arO 48 (preF 48 c2 c)) (arO 6 (preF 6 s2 s)))).2.2 a = _ := cdW_at_a hne1 hne2
  have kb7 : b < ((cdW w a ca sa (cdO ca sa v2 p2 sh2 ln2 pr2 gd co) (arO 48 (preF 48 c2 c)) (arO 6 (preF 6 s2 s)))).1 := hb
  have kx7 : ((cdW w a ca sa (cdO ca sa v2 p2 sh2 ln2 pr2 gd co) (arO 48 (preF 48 c2 c)) (arO 6 (preF 6 s2 s)))).2.2 b = _ := (cdW_out h1.1 h1.2.1 h1.2.2).trans hbw
  refine r_aload_n (pc2 := 63) dX0_copyFrom_62 rfl rfl ?_
  refine r_aload_n (pc2 := 64) dX0_copyFrom_63 rfl rfl ?_
  refine r_getf (pc2 := 67) dX0_copyFrom_64 rfl fl_0_34 (by assumption) (by assumption) (by rfl) ?_
  refine r_putf (pc2 := 70) dX0_copyFrom_67 rfl fl_0_34 (by assumption) (by assumption) (by exact Nat.le_of_ble_eq_true rfl) (by rfl) (by rfl) (by rfl) ?_
  rw [cdW_a _ _ _ _ _ hne1 hne2]
  show rn _ _ _ _ (cdW w a ca sa (cdO ca sa v2 p2 sh2 ln2 pr2 gd2 co) (arO 48 (preF 48 c2 c)) (arO 6 (preF 6 s2 s))) _
  have ka8 : a < ((cdW w a ca sa (cdO ca sa v2 p2 sh2 ln2 pr2 gd2 co) (arO 48 (preF 48 c2 c)) (arO 6 (preF 6 s2 s)))).1 := ha
  have kw8 : ((cdW w a ca sa (cdO ca sa v2 p2 sh2 ln2 pr2 gd2 co) (arO 48 (preF 48 c2 c)) (arO 6 (preF 6 s2 s)))).2.2 a = _ := cdW_at_a hne1 hne2
  have kb8 : b < ((cdW w a ca sa (cdO ca sa v2 p2 sh2 ln2 pr2 gd2 co) (arO 48 (preF 48 c2 c)) (arO 6 (preF 6 s2 s)))).1 := hb
  have kx8 : ((cdW w a ca sa (cdO ca sa v2 p2 sh2 ln2 pr2 gd2 co) (arO 48 (preF 48 c2 c)) (arO 6 (preF 6 s2 s)))).2.2 b = _ := (cdW_out h1.1 h1.2.1 h1.2.2).trans hbw
  refine r_aload_n (pc2 := 71) dX0_copyFrom_70 rfl rfl ?_
  refine r_aload_n (pc2 := 72) dX0_copyFrom_71 rfl rfl ?_
  refine r_getf (pc2 := 75) dX0_copyFrom_72 rfl fl_0_37 (by assumption) (by assumption) (by rfl) ?_
  refine r_putf (pc2 := 78) dX0_copyFrom_75 rfl fl_0_37 (by assumption) (by assumption) (by exact Nat.le_of_ble_eq_true rfl) (by rfl) (by rfl) (by rfl) ?_
  rw [cdW_a _ _ _ _ _ hne1 hne2]
  show rn _ _ _ _ (cdW w a ca sa (cdO ca sa v2 p2 sh2 ln2 pr2 gd2 co2) (arO 48 (preF 48 c2 c)) (arO 6 (preF 6 s2 s))) _
  refine r_retv dX0_copyFrom_78 rfl ?_
  exact ⟨rfl, by rw [← hw0]⟩

/-- what a Sight holds -/
abbrev sgO (a ka sb : Nat) : av_E := .inr (3, [.ref a, .ref ka, .ref sb])
def Sg (w : av_W) (a b ka sb : Nat) (f g : Nat → Int) : Prop := (b < w.1 ∧ w.2.2 b = sgO a ka sb) ∧ (ka < w.1 ∧ w.2.2 ka = arO 72 f) ∧ (sb < w.1 ∧ w.2.2 sb = arO 6 g) ∧ (b ≠ ka ∧ b ≠ sb ∧ ka ≠ sb)
def aps (a ca sa ka sb : Nat) : Prop := (a ≠ ka ∧ ca ≠ ka ∧ sa ≠ ka) ∧ (a ≠ sb ∧ ca ≠ sb ∧ sa ≠ sb)
/-- the slice that a ridge shows, by step and ridge in one number -/
def ssF (p sh ln : Int) : Nat → Int := fun j => slZ p sh ((j : Int) % 12) (plZ p ln ((j : Int) / 12) ((j : Int) % 12))
def cnA (p : Int) (n : Nat) : Nat → Int := fun j => sm n (fun i => bz (stZ p ((i : Int) - 9) = (j : Int)))
def w2W (w : av_W) (ka sb : Nat) (A B : av_E) : av_W := wst (wst w ka A) sb B
theorem w2W_a (w : av_W) {ka sb : Nat} (A B A2 : av_E) (h : ka ≠ sb) : wst (w2W w ka sb A B) ka A2 = w2W w ka sb A2 B := by
  unfold w2W
  rw [wst_comm _ B A2 (fun q => h q.symm), wst_wst]
theorem w2W_b (w : av_W) (ka sb : Nat) (A B B2 : av_E) : wst (w2W w ka sb A B) sb B2 = w2W w ka sb A B2 := by
  unfold w2W
  rw [wst_wst]
theorem w2W_id {w : av_W} {ka sb : Nat} {A B : av_E} (h1 : w.2.2 ka = A) (h2 : w.2.2 sb = B) : w2W w ka sb A B = w := by
  unfold w2W
  rw [wst_id h1, wst_id h2]
theorem Sg.set {w : av_W} {a b ka sb : Nat} {f g : Nat → Int} (h : Sg w a b ka sb f g) (f2 g2 : Nat → Int) : Sg (w2W w ka sb (arO 72 f2) (arO 6 g2)) a b ka sb f2 g2 := by
  obtain ⟨⟨hb, hbw⟩, ⟨hk, hkw⟩, ⟨hs, hsw⟩, h1, h2, h3⟩ := h
  unfold w2W
  exact ⟨⟨hb, by rw [wst_ne h2, wst_ne h1]; exact hbw⟩, ⟨hk, by rw [wst_ne h3]; exact wst_self⟩, ⟨hs, wst_self⟩, h1, h2, h3⟩
theorem Cd_w2W {w : av_W} {a ca sa : Nat} {v p sh ln pr gd co : Int} {c s : Nat → Int} (h : Cd w a ca sa v p sh ln pr gd co c s) {ka sb : Nat} (A B : av_E) (hd : aps a ca sa ka sb) : Cd (w2W w ka sb A B) a ca sa v p sh ln pr gd co c s := (h.out A hd.1.1 hd.1.2.1 hd.1.2.2).out B hd.2.1 hd.2.2.1 hd.2.2.2
theorem ssF_at {p sh ln x y : Int} (hx : 0 ≤ x) (hy : 0 ≤ y ∧ y ≤ 11) : ssF p sh ln (x * 12 + y).toNat = slZ p sh y (plZ p ln x y) := by
  unfold ssF
  rw [tn (by omega), show (x * 12 + y) % 12 = y by omega, show (x * 12 + y) / 12 = x by omega]
theorem cnA_step {p x : Int} (hx : -9 ≤ x) (j : Nat) : cnA p (x + 1 + 9).toNat j = cnA p (x + 9).toNat j + bz (stZ p x = (j : Int)) := by
  unfold cnA
  rw [show x + 1 + 9 = (x + 9) + 1 by omega, sm_step (by omega), tn (by omega), show x + 9 - 9 = x by omega]
theorem cnA_rg {p : Int} {n j : Nat} : 0 ≤ cnA p n j ∧ cnA p n j ≤ n := by
  have h := sm_rg (n := n) (f := fun i => bz (stZ p ((i : Int) - 9) = (j : Int))) (L := 0) (H := 1) (fun j _ => bz_rg)
  unfold cnA
  omega
theorem updZ_cnA {p x : Int} {g : Nat → Int} (hx : -9 ≤ x) (hr : 0 ≤ stZ p x ∧ stZ p x ≤ 5) : updZ (preF 6 (cnA p (x + 9).toNat) g) (stZ p x).toNat (preF 6 (cnA p (x + 9).toNat) g (stZ p x).toNat + 1) = preF 6 (cnA p (x + 1 + 9).toNat) g := by
  funext j
  unfold updZ
  by_cases h : j = (stZ p x).toNat
  · subst h
    rw [if_pos rfl, preF_lt (by omega), preF_lt (by omega), cnA_step hx, tn hr.1, bz_t rfl]
  · rw [if_neg h]
    by_cases h6 : (j : Int) < 6
    · rw [preF_lt h6, preF_lt h6, cnA_step hx, bz_f (by omega), Int.add_zero]
    · rw [preF_ge h6, preF_ge h6]

set_option maxHeartbeats 4000000 in
theorem c_aim (w : av_W) (a ca sa : Nat) (v p sh ln pr gd co : Int) (c s : Nat → Int) (hC : Cd w a ca sa v p sh ln pr gd co c s) (hK : KR v p sh ln) (b ka sb : Nat) (f g : Nat → Int) (hG : Sg w a b ka sb f g) (hd : aps a ca sa ka sb) : fn MX3_aim [.ref b] w none (w2W w ka sb (arO 72 (preF 72 (ssF p sh ln) f)) (arO 6 (preF 6 (cnA p 19) g))) := by
  obtain ⟨⟨ha, hw⟩, ⟨hca, hcw⟩, ⟨hsa, hsw⟩, hne1, hne2, hne3⟩ := id hC
  obtain ⟨hv, hp, hsh, hln⟩ := id hK
  obtain ⟨⟨hb, hbw⟩, ⟨hka, hkw⟩, ⟨hsb, hzw⟩, hng1, hng2, hng3⟩ := id hG
  try unfold RG at *
  show rn MX3_aim 0 [some (.ref b), none, none] [] w (fun r' w' => r' = none ∧ w' = (w2W w ka sb (arO 72 (preF 72 (ssF p sh ln) f)) (arO 6 (preF 6 (cnA p 19) g))))
  have loop3 : ∀ (n : Nat) (x : Int) (b2 : Option Value), (-9 ≤ x ∧ x ≤ 10 ∧ 11 ≤ x + n) → rn MX3_aim 66 [some (.ref b), some (.int (iN x)), b2] [] (w2W w ka sb (arO 72 (preF 72 (ssF p sh ln) f)) (arO 6 (preF 6 (cnA p (x + 9).toNat) g))) (fun r' w' => r' = none ∧ w' = w2W w ka sb (arO 72 (preF 72 (ssF p sh ln) f)) (arO 6 (preF 6 (cnA p 19) g))) := by
    intro n
    induction n with
    | zero =>
      intro x b2 hk0
      exfalso
      omega
    | succ n ih =>
      intro x b2 hk0
      obtain ⟨⟨qa, qaw⟩, -⟩ := Cd_w2W hC (arO 72 (preF 72 (ssF p sh ln) f)) (arO 6 (preF 6 (cnA p (x + 9).toNat) g)) hd
      obtain ⟨⟨qb, qbw⟩, ⟨qk, qkw⟩, ⟨qs, qsw⟩, -⟩ := hG.set (preF 72 (ssF p sh ln) f) (preF 6 (cnA p (x + 9).toNat) g)
      refine r_iload_n (pc2 := 67) dX3_aim_66 rfl rfl ?_
      refine r_bipush (pc2 := 69) dX3_aim_67 rfl (by decide) ?_
      refine r_icmp_gt (pc2 := 72) (tgt := 106) dX3_aim_69 rfl (by decide) (by omega) (by omega) (fun h69 => ?_) (fun h69 => ?_)
      · have h6 : x = 10 := by omega
        subst h6
        refine r_retv dX3_aim_106 rfl ?_
        have e19 : ((10 : Int) + 9).toNat = 19 := by decide
        exact ⟨rfl, by rw [e19]⟩
      · refine r_aload_n (pc2 := 73) dX3_aim_72 rfl rfl ?_
        refine r_getf (pc2 := 76) dX3_aim_73 rfl fl_3_12 (by assumption) (by assumption) (by rfl) ?_
        refine r_iload_n (pc2 := 77) dX3_aim_76 rfl rfl ?_
        refine r_callv_1 (pc2 := 80) dX3_aim_77 rfl rs_3_32 rfl (by decide) rfl (Nat.le_of_ble_eq_true rfl) (Nat.le_of_ble_eq_true rfl) (by assumption) (by assumption) (c_stepAt _ a ca sa v p sh ln pr gd co _ _ (Cd_w2W hC _ _ hd) hK x (by omega)) (fun r_ w_ h_ => ?_)
        rw [h_.1, h_.2]
        clear h_ w_ r_
        refine ⟨rfl, ?_⟩
        refine r_ist_2 (pc2 := 81) dX3_aim_80 rfl rfl ?_
        have hr := stZ_rg (an := x) hp (by omega)
        refine r_iload_n (pc2 := 82) dX3_aim_81 rfl rfl ?_
        refine r_iconst (pc2 := 83) dX3_aim_82 rfl ?_
        refine r_iconst (pc2 := 84) dX3_aim_83 rfl ?_
        refine r_calls_3 (pc2 := 87) dX3_aim_84 rfl rs_3_36 rfl (by decide) rfl (Nat.le_of_ble_eq_true rfl) (Nat.le_of_ble_eq_true rfl) (c_isWithin _ (stZ p x) 0 5 (by unfold RG; omega) (by unfold RG; omega) (by unfold RG; omega)) (fun r_ w_ h_ => ?_)
        rw [h_.1, h_.2]
        clear h_ w_ r_
        refine ⟨rfl, ?_⟩
        refine r_ifb_eq (pc2 := 90) (tgt := 100) dX3_aim_87 rfl (by decide)  (fun h87 => ?_) (fun h87 => ?_)
        · exfalso
          omega
        · refine r_aload_n (pc2 := 91) dX3_aim_90 rfl rfl ?_
          refine r_getf (pc2 := 94) dX3_aim_91 rfl fl_3_22 (by assumption) (by assumption) (by rfl) ?_
          refine r_iload_n (pc2 := 95) dX3_aim_94 rfl rfl ?_
          refine r_dup2 (pc2 := 96) dX3_aim_95 rfl rfl rfl ?_
          refine r_iald (pc2 := 97) dX3_aim_96 rfl (by decide) (by assumption) (by assumption) (by omega) (by omega) (by omega) ?_
          have hcr := cnA_rg (p := p) (n := (x + 9).toNat) (j := (stZ p x).toNat)
          refine r_iconst (pc2 := 98) dX3_aim_97 rfl ?_
          refine r_iadd (pc2 := 99) dX3_aim_98 rfl ?_
          refine r_iast (pc2 := 100) dX3_aim_99 rfl (by assumption) (by assumption) (by omega) (by omega) (by omega) ?_
          rw [w2W_b, updZ_cnA hk0.1 (by omega)]
          refine r_iinc_1 (pc2 := 103) dX3_aim_100 rfl rfl ?_
          refine r_goto (tgt := 66) dX3_aim_103 (by decide) ?_
          exact ih (x + 1) _ (by omega)
  have loop : ∀ (n : Nat) (x : Int) (b2 : Option Value), (0 ≤ x ∧ x ≤ 6 ∧ 7 ≤ x + n) → rn MX3_aim 2 [some (.ref b), some (.int (iN x)), b2] [] (w2W w ka sb (arO 72 (preF (x * 12) (ssF p sh ln) f)) (arO 6 (preF x (fun _ => 0) g))) (fun r' w' => r' = none ∧ w' = w2W w ka sb (arO 72 (preF 72 (ssF p sh ln) f)) (arO 6 (preF 6 (cnA p 19) g))) := by
    intro n
    induction n with
    | zero =>
      intro x b2 hk0
      exfalso
      omega
    | succ n ih =>
      intro x b2 hk0
      obtain ⟨⟨qa, qaw⟩, -⟩ := Cd_w2W hC (arO 72 (preF (x * 12) (ssF p sh ln) f)) (arO 6 (preF x (fun _ => 0) g)) hd
      obtain ⟨⟨qb, qbw⟩, ⟨qk, qkw⟩, ⟨qs, qsw⟩, -⟩ := hG.set (preF (x * 12) (ssF p sh ln) f) (preF x (fun _ => 0) g)
      refine r_iload_n (pc2 := 3) dX3_aim_2 rfl rfl ?_
      refine r_bipush (pc2 := 5) dX3_aim_3 rfl (by decide) ?_
      refine r_icmp_ge (pc2 := 8) (tgt := 63) dX3_aim_5 rfl (by decide) (by omega) (by omega) (fun h5 => ?_) (fun h5 => ?_)
      · have h6 : x = 6 := by omega
        subst h6
        refine r_bipush (pc2 := 65) dX3_aim_63 rfl (by decide) ?_
        refine r_ist_1 (pc2 := 66) dX3_aim_65 rfl rfl ?_
        have := loop3 20 (-9) b2 (by omega)
        exact this
      · refine r_aload_n (pc2 := 9) dX3_aim_8 rfl rfl ?_
        refine r_getf (pc2 := 12) dX3_aim_9 rfl fl_3_22 (by assumption) (by assumption) (by rfl) ?_
        refine r_iload_n (pc2 := 13) dX3_aim_12 rfl rfl ?_
        refine r_iconst (pc2 := 14) dX3_aim_13 rfl ?_
        refine r_iast (pc2 := 15) dX3_aim_14 rfl (by assumption) (by assumption) (by omega) (by omega) (by omega) ?_
        rw [w2W_b, preF_step hk0.1 (fun _ => 0) g]
        have inner : ∀ (n2 : Nat) (y : Int), (0 ≤ y ∧ y ≤ 12 ∧ 13 ≤ y + n2) → rn MX3_aim 17 [some (.ref b), some (.int (iN x)), some (.int (iN y))] [] (w2W w ka sb (arO 72 (preF (x * 12 + y) (ssF p sh ln) f)) (arO 6 (preF (x + 1) (fun _ => 0) g))) (fun r' w' => r' = none ∧ w' = w2W w ka sb (arO 72 (preF 72 (ssF p sh ln) f)) (arO 6 (preF 6 (cnA p 19) g))) := by
          intro n2
          induction n2 with
          | zero =>
            intro y hl0
            exfalso
            omega
          | succ n2 ih2 =>
            intro y hl0
            obtain ⟨⟨qai, qawi⟩, -⟩ := Cd_w2W hC (arO 72 (preF (x * 12 + y) (ssF p sh ln) f)) (arO 6 (preF (x + 1) (fun _ => 0) g)) hd
            obtain ⟨⟨qbi, qbwi⟩, ⟨qki, qkwi⟩, ⟨qsi, qswi⟩, -⟩ := hG.set (preF (x * 12 + y) (ssF p sh ln) f) (preF (x + 1) (fun _ => 0) g)
            refine r_iload_n (pc2 := 18) dX3_aim_17 rfl rfl ?_
            refine r_bipush (pc2 := 20) dX3_aim_18 rfl (by decide) ?_
            refine r_icmp_ge (pc2 := 23) (tgt := 57) dX3_aim_20 rfl (by decide) (by omega) (by omega) (fun h20 => ?_) (fun h20 => ?_)
            · have h6 : y = 12 := by omega
              subst h6
              rw [show x * 12 + 12 = (x + 1) * 12 by omega]
              refine r_iinc_1 (pc2 := 60) dX3_aim_57 rfl rfl ?_
              refine r_goto (tgt := 2) dX3_aim_60 (by decide) ?_
              exact ih (x + 1) _ (by omega)
            · refine r_aload_n (pc2 := 24) dX3_aim_23 rfl rfl ?_
              refine r_getf (pc2 := 27) dX3_aim_24 rfl fl_3_18 (by assumption) (by assumption) (by rfl) ?_
              refine r_iload_n (pc2 := 28) dX3_aim_27 rfl rfl ?_
              refine r_bipush (pc2 := 30) dX3_aim_28 rfl (by decide) ?_
              refine r_imul (pc2 := 31) dX3_aim_30 rfl ?_
              refine r_iload_n (pc2 := 32) dX3_aim_31 rfl rfl ?_
              refine r_iadd (pc2 := 33) dX3_aim_32 rfl ?_
              refine r_aload_n (pc2 := 34) dX3_aim_33 rfl rfl ?_
              refine r_getf (pc2 := 37) dX3_aim_34 rfl fl_3_12 (by assumption) (by assumption) (by rfl) ?_
              refine r_iload_n (pc2 := 38) dX3_aim_37 rfl rfl ?_
              refine r_aload_n (pc2 := 39) dX3_aim_38 rfl rfl ?_
              refine r_getf (pc2 := 42) dX3_aim_39 rfl fl_3_12 (by assumption) (by assumption) (by rfl) ?_
              refine r_iload_n (pc2 := 43) dX3_aim_42 rfl rfl ?_
              refine r_iload_n (pc2 := 44) dX3_aim_43 rfl rfl ?_
              refine r_callv_2 (pc2 := 47) dX3_aim_44 rfl rs_3_25 rfl (by decide) rfl (Nat.le_of_ble_eq_true rfl) (Nat.le_of_ble_eq_true rfl) (by assumption) (by assumption) (c_placeSeen _ a ca sa v p sh ln pr gd co _ _ (Cd_w2W hC _ _ hd) hK x y (by omega) (by omega)) (fun r_ w_ h_ => ?_)
              rw [h_.1, h_.2]
              clear h_ w_ r_
              refine ⟨rfl, ?_⟩
              refine r_callv_2 (pc2 := 50) dX3_aim_47 rfl rs_3_29 rfl (by decide) rfl (Nat.le_of_ble_eq_true rfl) (Nat.le_of_ble_eq_true rfl) (by assumption) (by assumption) (c_sliceBehind _ a ca sa v p sh ln pr gd co _ _ (Cd_w2W hC _ _ hd) hK y (plZ p ln x y) (by omega) (by have := plZ_rg (ln := ln) (st := x) (r := y) hp; omega)) (fun r_ w_ h_ => ?_)
              rw [h_.1, h_.2]
              clear h_ w_ r_
              refine ⟨rfl, ?_⟩
              rw [show (12 : Int) = 12 from rfl]
              have hpl := plZ_rg (ln := ln) (st := x) (r := y) hp
              refine r_iast (pc2 := 51) dX3_aim_50 rfl (by assumption) (by assumption) (by omega) (by omega) (by omega) ?_
              rw [w2W_a _ _ _ _ hng3, ← ssF_at (by omega) (by omega), preF_step (by omega), show x * 12 + y + 1 = x * 12 + (y + 1) by omega]
              refine r_iinc_2 (pc2 := 54) dX3_aim_51 rfl rfl ?_
              refine r_goto (tgt := 17) dX3_aim_54 (by decide) ?_
              exact ih2 (y + 1) (by omega)
        refine r_iconst (pc2 := 16) dX3_aim_15 rfl ?_
        refine r_ist_2 (pc2 := 17) dX3_aim_16 rfl rfl ?_
        have := inner 13 0 (by omega)
        rw [Int.add_zero] at this
        exact this
  refine r_iconst (pc2 := 1) dX3_aim_0 rfl ?_
  refine r_ist_1 (pc2 := 2) dX3_aim_1 rfl rfl ?_
  have := loop 7 0 none (by omega)
  rw [show (0 : Int) * 12 = 0 from rfl, preF_0, preF_0, w2W_id hkw hzw] at this
  exact this
