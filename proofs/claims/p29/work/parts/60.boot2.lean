/-! the constructors, by evaluation -/
/-! the constructors, by evaluation -/
def av_wE : av_W := (0, 0, fun _ => .inr (0, []))
def wE1 : av_W := (1, 9, av_up av_wE.2.2 0 (.inr (4, av_df 4)))
def bt1 : Option (Option Value × av_W) := arun 3000 MX4_init 0 [some (.ref 0)] [] wE1
def wE2 : av_W := (bt1.getD (none, wE1)).2
def wE3 : av_W := (wE2.1 + 1, wE2.2.1 + 9, av_up wE2.2.2 33 (.inr (4, av_df 4)))
def bt2 : Option (Option Value × av_W) := arun 3000 MX4_init 0 [some (.ref 33)] [] wE3
def wE4 : av_W := (bt2.getD (none, wE3)).2
def isVoid (q : Option (Option Value × av_W)) : Bool := match q with | some (none, _) => true | _ => false
theorem isVoid_ok {q : Option (Option Value × av_W)} {w : av_W} (h : isVoid q = true) : q = some (none, (q.getD (none, w)).2) := by
  unfold isVoid at h
  split at h
  · rfl
  · cases h
theorem bt1_ok : bt1 = some (none, wE2) := isVoid_ok (by decide +kernel)
theorem bt2_ok : bt2 = some (none, wE4) := isVoid_ok (by decide +kernel)
theorem wE2_n : wE2.1 = 33 := by decide +kernel
theorem wE4_n : wE4.1 = 66 ∧ wE4.2.1 ≤ 7302250 := by decide +kernel
theorem wE2_wf : av_wf [some (.ref av_scr), some (.ref 0), none, none, none] [] wE2 = true := by decide +kernel
