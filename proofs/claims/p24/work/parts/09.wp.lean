/-! WHAT HOLDS AT A RUN'S END -/
def zwp (sc : Nat × (Int → Int)) (m i : Nat) (ls : zL) (st : List zV) (h : zH) (Q : Option zV → zH → Prop) : Prop := ∃ n r h', zrun sc n m i ls st h = some (r, h') ∧ Q r h'
def zca (sc : Nat × (Int → Int)) (m : Nat) (as : List zV) (h : zH) (Q : Option zV → zH → Prop) : Prop := zwp sc m 0 (zen m as) [] h Q
section WP
variable {sc : Nat × (Int → Int)} {m i : Nat} {ls : zL} {st : List zV} {h : zH} {Q : Option zV → zH → Prop}
theorem zwp_el : zwp sc m i ls st h Q = zel (fun i' ls' st' h' => zwp sc m i' ls' st' h' Q) (fun m' as st' => zca sc m' as h (fun r h1 => zwp sc m (i + 1) ls (r.toList ++ st') h1 Q)) (fun r => Q r h) False (zexR i ls st h sc (zfe m i)) := by
  apply propext
  constructor
  · rintro ⟨n, r, h', hr, hq⟩
    cases n with
    | zero => cases hr
    | succ n =>
      rw [zrun_s] at hr
      generalize zexR i ls st h sc (zfe m i) = ρ at hr ⊢
      rcases ρ with ⟨i', ls', st', h1⟩ | ⟨m', as, st'⟩ | r1 | u
      · exact ⟨n, r, h', hr, hq⟩
      · have hr : (zrun sc n m' 0 (zen m' as) [] h).bind (fun r => zrun sc n m (i + 1) ls (r.1.toList ++ st') r.2) = some (r, h') := hr
        cases hc : zrun sc n m' 0 (zen m' as) [] h with
        | none => rw [hc] at hr; cases hr
        | some x => rw [hc] at hr; exact ⟨n, x.1, x.2, hc, n, r, h', hr, hq⟩
      · have hr : some (r1, h) = some (r, h') := hr
        cases hr
        exact hq
      · cases hr
  · intro hz
    generalize hρ : zexR i ls st h sc (zfe m i) = ρ at hz
    have key : ∀ n x, zel (fun i' ls' st' h' => zrun sc n m i' ls' st' h') (fun m' as st' => (zrun sc n m' 0 (zen m' as) [] h).bind (fun r => zrun sc n m (i + 1) ls (r.1.toList ++ st') r.2)) (fun r => some (r, h)) none ρ = some x → zrun sc (n + 1) m i ls st h = some x := by
      intro n x hx
      rw [zrun_s, hρ]; exact hx
    rcases ρ with ⟨i', ls', st', h1⟩ | ⟨m', as, st'⟩ | r1 | u
    · obtain ⟨n, r, h', hr, hq⟩ := hz
      exact ⟨n + 1, r, h', key n _ hr, hq⟩
    · obtain ⟨n, r1, h1, hr1, n2, r, h', hr, hq⟩ := hz
      refine ⟨n + n2 + 1, r, h', key (n + n2) _ ?_, hq⟩
      show (zrun sc (n + n2) m' 0 (zen m' as) [] h).bind (fun r => zrun sc (n + n2) m (i + 1) ls (r.1.toList ++ st') r.2) = _
      rw [run_mono n m' 0 _ [] h _ hr1 n2]
      show zrun sc (n + n2) m (i + 1) ls (r1.toList ++ st') h1 = _
      rw [Nat.add_comm n n2]
      exact run_mono n2 m (i + 1) ls _ h1 _ hr n
    · exact ⟨1, r1, h, key 0 _ rfl, hz⟩
    · cases hz
theorem zwp_ex : zwp sc m i ls st h Q = zex i ls st h (fun i' ls' st' h' => zwp sc m i' ls' st' h' Q) (fun m' as st' => zca sc m' as h (fun r h1 => zwp sc m (i + 1) ls (r.toList ++ st') h1 Q)) (fun r => Q r h) False sc (zfe m i) := by
  rw [zwp_el, ← zex_el]
/-- one instruction, its shape at hand -/
theorem zwp_of {op : Op} {X : Prop} (hf : zfe m i = op) (hx : zex i ls st h (fun i' ls' st' h' => zwp sc m i' ls' st' h' Q) (fun m' as st' => zca sc m' as h (fun r h1 => zwp sc m (i + 1) ls (r.toList ++ st') h1 Q)) (fun r => Q r h) False sc op = X) : zwp sc m i ls st h Q = X := by
  rw [zwp_ex, hf, hx]
theorem zwp_cs {m' j : Nat} {as st' : List zV} (hf : zfe m i = (23, 0, m', j, [])) (h1 : st.take j = as.reverse) (h2 : st.drop j = st') (h3 : (Nat.ble j st.length && Nat.ble st.length (j + 4)) = true) (h4 : (st.take j).all zplain = true) : zwp sc m i ls st h Q = zca sc m' as h (fun r h1 => zwp sc m (i + 1) ls (r.toList ++ st') h1 Q) := by
  refine zwp_of hf ?_
  have this : zex i ls st h (fun i' ls' st' h' => zwp sc m i' ls' st' h' Q) (fun m' as st' => zca sc m' as h (fun r h1 => zwp sc m (i + 1) ls (r.toList ++ st') h1 Q)) (fun r => Q r h) False sc (23, 0, m', j, []) = x_calls st (fun m' as st' => zca sc m' as h (fun r h1 => zwp sc m (i + 1) ls (r.toList ++ st') h1 Q)) False m' j := rfl
  rw [this]
  simp only [Bool.and_eq_true, Nat.ble_eq] at h3
  unfold x_calls
  rw [if_pos ⟨h3, h4⟩, h1, h2, List.reverse_reverse]
theorem zwp_cv {m' j t : Nat} {z : Int} {as st' : List zV} (ht : t = 24 ∨ t = 25) (hf : zfe m i = (t, z, m', j, [])) (h1 : st.take j = as.reverse) (h2 : st.drop j = st') (h3 : (Nat.ble j st.length && Nat.ble st.length (j + 4)) = true) (h4 : (st.take j).all zplain = true) : zwp sc m i ls st h Q = (zrecv h z.toNat as = true ∧ zca sc m' as h (fun r h1 => zwp sc m (i + 1) ls (r.toList ++ st') h1 Q)) := by
  refine zwp_of hf ?_
  have : zex i ls st h (fun i' ls' st' h' => zwp sc m i' ls' st' h' Q) (fun m' as st' => zca sc m' as h (fun r h1 => zwp sc m (i + 1) ls (r.toList ++ st') h1 Q)) (fun r => Q r h) False sc (t, z, m', j, []) = x_callv st h (fun m' as st' => zca sc m' as h (fun r h1 => zwp sc m (i + 1) ls (r.toList ++ st') h1 Q)) False z m' j := by
    rcases ht with rfl | rfl <;> rfl
  rw [this]
  simp only [Bool.and_eq_true, Nat.ble_eq] at h3
  unfold x_callv
  rw [h1, h2, List.reverse_reverse]
  by_cases hr : zrecv h z.toNat as = true
  · rw [if_pos ⟨⟨h3, by rw [← h1]; exact h4⟩, hr⟩]
    simp [hr]
  · rw [if_neg (fun q => hr q.2)]
    simp [hr]
theorem zwp_bs {f : Int → Int → Int} {x y : Int} {st' : List zV} (t : Nat) (ht : (t = 49 ∧ f = fun x y => if x < y then y else x) ∨ (t = 56 ∧ f = fun x y => if y < x then y else x)) (hf : zfe m i = (t, 0, 0, 0, [])) (hs : st = .inl y :: .inl x :: st') (h3 : Nat.ble st'.length 4 = true) : zwp sc m i ls st h Q = zwp sc m (i + 1) ls (.inl (f x y) :: st') h Q := by
  refine zwp_of hf ?_
  subst hs
  have : zex i ls (.inl y :: .inl x :: st') h (fun i' ls' st' h' => zwp sc m i' ls' st' h' Q) (fun m' as st' => zca sc m' as h (fun r h1 => zwp sc m (i + 1) ls (r.toList ++ st') h1 Q)) (fun r => Q r h) False sc (t, 0, 0, 0, []) = x_binS i ls (.inl y :: .inl x :: st') h (fun i' ls' st' h' => zwp sc m i' ls' st' h' Q) False f := by
    rcases ht with ⟨rfl, rfl⟩ | ⟨rfl, rfl⟩ <;> rfl
  rw [this]
  unfold x_binS
  dsimp only
  rw [if_pos (Nat.le_of_ble_eq_true h3)]
theorem zwp_oi {q : Nat} {st' : List zV} (hf : zfe m i = (31, 0, 0, 0, [])) (hs : st = .inr (.inl (some q)) :: st') (h3 : Nat.ble st'.length 4 = true) (h4 : st'.all zplain = true) : zwp sc m i ls st h Q = zwp sc m (i + 1) ls st' h Q := by
  refine zwp_of hf ?_
  subst hs
  have this : zex i ls (.inr (.inl (some q)) :: st') h (fun i' ls' st' h' => zwp sc m i' ls' st' h' Q) (fun m' as st' => zca sc m' as h (fun r h1 => zwp sc m (i + 1) ls (r.toList ++ st') h1 Q)) (fun r => Q r h) False sc (31, 0, 0, 0, []) = x_oinit i ls (.inr (.inl (some q)) :: st') h (fun i' ls' st' h' => zwp sc m i' ls' st' h' Q) False := rfl
  rw [this]
  unfold x_oinit
  dsimp only
  rw [if_pos ⟨Nat.le_of_ble_eq_true h3, h4⟩]
theorem zwp_mono {Q' : Option zV → zH → Prop} (hw : zwp sc m i ls st h Q) (hq : ∀ r h', Q r h' → Q' r h') : zwp sc m i ls st h Q' := by
  obtain ⟨n, r, h', a, b⟩ := hw
  exact ⟨n, r, h', a, hq r h' b⟩
theorem zca_mono {as : List zV} {Q' : Option zV → zH → Prop} (hw : zca sc m as h Q) (hq : ∀ r h', Q r h' → Q' r h') : zca sc m as h Q' := zwp_mono hw hq
theorem zwp_det {r0 : Option zV} {h0 : zH} (hw : zwp sc m i ls st h (fun r h' => r = r0 ∧ h' = h0)) : zwp sc m i ls st h Q = Q r0 h0 := by
  obtain ⟨n, r, h', a, rfl, rfl⟩ := hw
  apply propext
  constructor
  · rintro ⟨n2, r2, h2, a2, hq⟩
    have h3 := run_mono n m i ls st h _ a n2
    have h4 := run_mono n2 m i ls st h _ a2 n
    rw [Nat.add_comm n2 n, h3] at h4
    cases h4
    exact hq
  · intro hq
    exact ⟨n, r, h', a, hq⟩
theorem zca_det {as : List zV} {r0 : Option zV} {h0 : zH} (hw : zca sc m as h (fun r h' => r = r0 ∧ h' = h0)) : zca sc m as h Q = Q r0 h0 := zwp_det hw
end WP
