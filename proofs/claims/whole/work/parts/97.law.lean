/-- THE LAW IN THE SMALL MACHINE -/
theorem law_wp (sc : Nat × (Int → Int)) (hL : sc.1 ≤ 2560) (hsc : ∀ x, inR (sc.2 x)) : zwp sc 154 0 [some aS, none, none, none, none, none, none, none] [] (0, 0, fun _ => cA 0 (fun _ => 0)) (fun r h' => r = some (.inl 1) ∧ h'.1 ≤ 600000 ∧ h'.2.1 ≤ 7302250) := by
  sorry
