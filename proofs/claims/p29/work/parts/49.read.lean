/-! both texts are read -/
theorem l_isRead {sc : av_E} {w : av_W} {V U : CV} {len len2 : Int} {t t2 : Nat → Int} (J : JJ sc w V U len len2 t t2) (h : SC V U) (x y : Int) : cl ML_isRead [.ref 0, .ref 33, .int (iN x), .int (iN y)] w (fun r' w' => r' = some (.int (iN 1)) ∧ JM sc w') := by
  sorry
