/-! what the law answers on the small machine -/
def tw_h0 (L : Nat) (xs : Nat → Int32) : tw_H := (1, 0, fun j => if j = 0 then some (.inl (L, xs)) else none)
theorem tw_law (L : Nat) (xs : Nat → Int32) (hL : L ≤ 384) : ∃ h1 : tw_H, tw_b 178 0 (tw_en 178 [.ref 0]) [] (tw_h0 L xs) = some (some (.int 1), h1) ∧ h1.1 ≤ 600001 ∧ h1.2.1 ≤ 7302250 := by
  sorry
