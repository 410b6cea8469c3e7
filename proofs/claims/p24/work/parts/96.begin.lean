/-! AN OBJECT MADE, ANYWHERE -/
abbrev newC : zC := .inl (5, [.inr (.inl none), .inr (.inl none), .inr (.inl none), .inr (.inl none), .inr (.inl none), .inl 0])
theorem mk_obj (sc : Nat × (Int → Int)) (H : zH) : ∃ (d : Nat → Prop) (f : Nat → Nat) (h H' : zH), rVw d f h H' ∧ d 0 ∧ f 0 = H.1 ∧ rC h z0S 0 ∧ (∀ q, q < H.1 → zgt H' q = zgt H q) ∧ (∀ k, d k → H.1 ≤ f k) ∧ H'.1 = H.1 + 24 ∧ h.1 = 32 ∧ H'.2.1 = h.2.1 + H.2.1 ∧ ∀ Q, zca sc 64 [.inr (.inl (some H.1))] (zaH H 6 newC) Q = Q none H' := by
  have hR : rVw (fun k => k = 0) (fun _ => H.1) ((1, 6, fun _ => newC) : zH) (zaH H 6 newC) := by
    refine ⟨fun k hk => ?_, fun k j hk hj _ => by rw [hk, hj]⟩
    have hk : k = 0 := hk
    subst hk
    refine ⟨Nat.zero_lt_one, Nat.lt_succ_self _, ?_, ?_⟩
    · intro v hv
      have hv : v ∈ ([.inr (.inl none), .inr (.inl none), .inr (.inl none), .inr (.inl none), .inr (.inl none), .inl 0] : List zV) := hv
      simp only [List.mem_cons, List.not_mem_nil, or_false] at hv
      rcases hv with rfl | rfl | rfl | rfl | rfl | rfl
      all_goals first | trivial | exact fun k hk => by cases hk
    · rw [zgt_a, if_pos rfl]
      rfl
  have hw : zca sc 64 (.inr (.inl (some 0)) :: []) ((1, 6, fun _ => newC) : zH) (fun r h' => r = none ∧ rC (32, h'.2.1, h'.2.2) z0S 0 ∧ h'.1 = 24) := by
    refine s5_init rfl rfl (fun h' a0 a1 a2 a3 a4 a5 a6 a7 => ⟨rfl, ?_, a6⟩)
    have a7 : h'.2.1 ≤ 6 + 10000 := a7
    refine ⟨a0, a1, a2, ⟨0, 0, fun _ => none, fun _ => zD0, ⟨rfl, ⟨fun _ => none, ⟨a3.1, a3.2⟩, fun _ _ _ => rfl⟩, ⟨fun _ => none, a4, fun _ _ _ => rfl⟩, fun j hj => absurd hj (by omega), fun _ _ q => (by cases q), fun _ _ _ q => (by cases q)⟩, by omega, by omega, by decide, fun j hj => absurd hj (by show ¬ j < 0; omega), rfl, rfl, Nat.le_refl _⟩, ⟨0, a5, by omega, by omega⟩, by show h'.2.1 ≤ _; omega⟩
  obtain ⟨r, h', d', f', H', ⟨rfl, e1, e2⟩, e3, ⟨x1, x2, x3, x4, x5, x6⟩, e5⟩ := run_o (b := H.1) hR rfl rfl i0 hw
  have x3 : H.1 + 1 ≤ H'.1 := x3
  have x4 : H'.1 + 1 = h'.1 + (H.1 + 1) := x4
  have x5 : H'.2.1 + 6 = h'.2.1 + (H.2.1 + 6) := x5
  refine ⟨d', f', (32, h'.2.1, h'.2.2), H', ⟨fun k hk => ?_, e3.2⟩, (x1 0 rfl).1, (x1 0 rfl).2, e1, fun q hq => ?_, fun k hk => ?_, by omega, rfl, by show H'.2.1 = h'.2.1 + H.2.1; omega, e5⟩
  · obtain ⟨y1, y2, y3, y4⟩ := e3.1 k hk
    exact ⟨by show k < 32; omega, y2, y3, y4⟩
  · rw [x6 q (Or.inl (by show q < H.1 + 1; omega)) (fun k _ e => by have e : H.1 = q := e; omega), zgt_a, if_neg (by omega)]
  · rcases x2 k hk with q | q
    · have q : k = 0 := q
      subst q
      rw [(x1 0 rfl).2]
      exact Nat.le_refl _
    · have q : H.1 + 1 ≤ f' k := q
      omega
theorem two_obj (sc : Nat × (Int → Int)) (H : zH) (h1 : H.1 = 0) (h2 : H.2.1 = 0) : ∃ HA HB : zH, HA.1 = 24 ∧ (∀ Q, zca sc 64 [.inr (.inl (some 0))] (zaH H 6 newC) Q = Q none HA) ∧ (∀ Q, zca sc 64 [.inr (.inl (some 24))] (zaH HA 6 newC) Q = Q none HB) ∧ PP 0 24 HB z0S z0S 0 0 := by
  obtain ⟨d1, f1, v1, HA, a1, a2, a3, a4, a5, a6, a7, a8, a9, a10⟩ := mk_obj sc H
  have hA : HA.1 = 24 := by omega
  obtain ⟨d2, f2, v2, HB, b1, b2, b3, b4, b5, b6, b7, b8, b9, b10⟩ := mk_obj sc HA
  rw [h1] at a3 a10
  rw [hA] at b3 b10
  refine ⟨HA, HB, hA, a10, b10, d1, f1, v1, d2, f2, v2, ⟨fun k hk => ?_, a1.2⟩, a2, a3, a4, b1, b2, b3, b4, fun k j hk hj => ?_, by omega, by omega⟩
  · obtain ⟨y1, y2, y3, y4⟩ := a1.1 k hk
    exact ⟨y1, by omega, y3, by rw [b5 _ y2]; exact y4⟩
  · have := (a1.1 k hk).2.1
    have := b6 j hj
    omega
