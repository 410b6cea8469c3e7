/-! TWO OBJECTS IN ONE HEAP: each has its view -/
def PP (b1 b2 : Nat) (H : zH) (z1 z2 : zS) (c1 c2 : Nat) : Prop := ∃ (d1 : Nat → Prop) (f1 : Nat → Nat) (h1 : zH) (d2 : Nat → Prop) (f2 : Nat → Nat) (h2 : zH), rVw d1 f1 h1 H ∧ d1 0 ∧ f1 0 = b1 ∧ rC h1 z1 c1 ∧ rVw d2 f2 h2 H ∧ d2 0 ∧ f2 0 = b2 ∧ rC h2 z2 c2 ∧ (∀ k j, d1 k → d2 j → f1 k ≠ f2 j) ∧ H.1 + 16 = h1.1 + h2.1 ∧ H.2.1 = h1.2.1 + h2.2.1
theorem PP_sw {b1 b2 : Nat} {H : zH} {z1 z2 : zS} {c1 c2 : Nat} (h : PP b1 b2 H z1 z2 c1 c2) : PP b2 b1 H z2 z1 c2 c1 := by
  obtain ⟨d1, f1, h1, d2, f2, h2, a1, a2, a3, a4, a5, a6, a7, a8, a9, a10, a11⟩ := h
  exact ⟨d2, f2, h2, d1, f1, h1, a5, a6, a7, a8, a1, a2, a3, a4, fun k j p q e => a9 j k q p e.symm, by omega, by omega⟩
theorem PP_sz {b1 b2 : Nat} {H : zH} {z1 z2 : zS} {c1 c2 : Nat} (h : PP b1 b2 H z1 z2 c1 c2) : H.1 ≤ 48 + 13 * (c1 + c2) ∧ H.2.1 ≤ 40000 + 449 * (c1 + c2) := by
  obtain ⟨d1, f1, h1, d2, f2, h2, a1, a2, a3, a4, a5, a6, a7, a8, a9, a10, a11⟩ := h
  have := rC_sz a4
  have := rC_sz a8
  omega
theorem PP_c {b1 b2 : Nat} {H : zH} {z1 z2 : zS} {c1 c2 : Nat} (h : PP b1 b2 H z1 z2 c1 c2) : PP b1 b2 H z1 z2 (c1 + 1) c2 := by
  obtain ⟨d1, f1, h1, d2, f2, h2, a1, a2, a3, a4, a5, a6, a7, a8, a9, a10, a11⟩ := h
  exact ⟨d1, f1, h1, d2, f2, h2, a1, a2, a3, rC_c a4, a5, a6, a7, a8, a9, a10, a11⟩
theorem PP_cn {b1 b2 : Nat} {H : zH} {z1 z2 : zS} {c1 c2 : Nat} (n : Nat) (h : PP b1 b2 H z1 z2 c1 c2) : PP b1 b2 H z1 z2 (c1 + n) c2 := by
  induction n with
  | zero => exact h
  | succ n ih => exact PP_c ih
theorem rVw_other {d1 d1' d2 : Nat → Prop} {f1 f1' f2 : Nat → Nat} {h1 h1' h2 H H' : zH} (hE : EX d1 f1 h1 H d1' f1' h1' H') (hR : rVw d2 f2 h2 H) (hd : ∀ k j, d1 k → d2 j → f1 k ≠ f2 j) : rVw d2 f2 h2 H' ∧ ∀ k j, d1' k → d2 j → f1' k ≠ f2 j := by
  obtain ⟨e1, e2, e3, e4, e5, e6⟩ := hE
  refine ⟨⟨fun k hk => ?_, hR.2⟩, fun k j hk hj => ?_⟩
  · obtain ⟨a1, a2, a3, a4⟩ := hR.1 k hk
    exact ⟨a1, Nat.lt_of_lt_of_le a2 e3, a3, by rw [e6 _ (Or.inl a2) (fun j hj => hd j k hj hk)]; exact a4⟩
  · have := (hR.1 j hj).2.1
    rcases e2 k hk with q | q
    · rw [(e1 k q).2]; exact hd k j q hj
    · omega
theorem mS_int {f : Nat → Nat} {as : List zV} (h : ∀ v ∈ as, ∃ x, v = .inl x) : mS f as = as := by
  unfold mS
  rw [List.map_congr_left (g := id) (fun v hv => ?_), List.map_id]
  obtain ⟨x, rfl⟩ := h v hv
  rfl
theorem okSt_int {d : Nat → Prop} {as : List zV} (h : ∀ v ∈ as, ∃ x, v = .inl x) : okSt d as := fun v hv => by
  obtain ⟨x, rfl⟩ := h v hv
  trivial
theorem run_o {sc : Nat × (Int → Int)} {d : Nat → Prop} {f : Nat → Nat} {h H : zH} {b m : Nat} {as : List zV} {P : Option zV → zH → Prop} (hR : rVw d f h H) (h0 : d 0) (hb : f 0 = b) (has : ∀ v ∈ as, ∃ x, v = .inl x) (hw : zca sc m (.inr (.inl (some 0)) :: as) h P) : ∃ r h' d' f' H', P r h' ∧ rVw d' f' h' H' ∧ EX d f h H d' f' h' H' ∧ ∀ Q, zca sc m (.inr (.inl (some b)) :: as) H Q = Q (r.map (vf f')) H' := by
  obtain ⟨n, r, h', hr, hp⟩ := hw
  obtain ⟨d', f', H', e1, e2, e3, -⟩ := run_v n d f m 0 _ [] h H r h' hr hR (okLs_en (okSt_c (fun k hk => by cases hk; exact h0) (okSt_int has))) (fun v hv => by cases hv)
  rw [mL_en] at e1
  have e4 : mS f (.inr (.inl (some 0)) :: as) = .inr (.inl (some b)) :: as := by
    rw [← hb]
    show Sum.inr (Sum.inl (some (f 0))) :: mS f as = _
    rw [mS_int has]
  rw [e4] at e1
  exact ⟨r, h', d', f', H', hp, e2, e3, fun Q => zca_det ⟨n, _, H', e1, rfl, rfl⟩⟩
theorem PP_run {sc : Nat × (Int → Int)} {b1 b2 : Nat} {H : zH} {z1 z2 z' : zS} {c1 c2 c' m : Nat} {as : List zV} {a : Int} (hP : PP b1 b2 H z1 z2 c1 c2) (has : ∀ v ∈ as, ∃ x, v = .inl x) (hw : ∀ h, rC h z1 c1 → zca sc m (.inr (.inl (some 0)) :: as) h (fun r h' => r = some (.inl a) ∧ rC h' z' c')) : ∃ H', PP b1 b2 H' z' z2 c' c2 ∧ ∀ Q, zca sc m (.inr (.inl (some b1)) :: as) H Q = Q (some (.inl a)) H' := by
  obtain ⟨d1, f1, h1, d2, f2, h2, a1, a2, a3, a4, a5, a6, a7, a8, a9, a10, a11⟩ := hP
  obtain ⟨r, h', d', f', H', ⟨rfl, e1⟩, e2, e3, e4⟩ := run_o a1 a2 a3 has (hw h1 a4)
  obtain ⟨o1, o2⟩ := rVw_other e3 a5 a9
  obtain ⟨x1, x2, x3, x4, x5, x6⟩ := e3
  exact ⟨H', ⟨d', f', h', d2, f2, h2, e2, (x1 0 a2).1, (x1 0 a2).2.trans a3, e1, o1, a6, a7, a8, o2, by omega, by omega⟩, e4⟩
/-- what changes nothing -/
theorem PP_eq {sc : Nat × (Int → Int)} {b1 b2 : Nat} {H : zH} {z1 z2 : zS} {c1 c2 m : Nat} {as : List zV} {v : zV} (hP : PP b1 b2 H z1 z2 c1 c2) (has : ∀ v ∈ as, ∃ x, v = .inl x) (hv : ∀ f, vf f v = v) (hw : ∀ h, rC h z1 c1 → zca sc m (.inr (.inl (some 0)) :: as) h (fun r h' => r = some v ∧ h' = h)) (Q : Option zV → zH → Prop) : zca sc m (.inr (.inl (some b1)) :: as) H Q = Q (some v) H := by
  obtain ⟨d1, f1, h1, d2, f2, h2, a1, a2, a3, a4, -⟩ := hP
  obtain ⟨r, h', d', f', H', ⟨rfl, e1⟩, e2, e3, e4⟩ := run_o a1 a2 a3 has (hw h1 a4)
  subst e1
  obtain ⟨x1, x2, x3, x4, x5, x6⟩ := e3
  have hH : H' = H := by
    obtain ⟨H1, H2, H3⟩ := H
    obtain ⟨H1', H2', H3'⟩ := H'
    have y1 : H1' = H1 := by have x4 : H1' + h'.1 = h'.1 + H1 := x4; omega
    have y2 : H2' = H2 := by have x5 : H2' + h'.2.1 = h'.2.1 + H2 := x5; omega
    have y3 : H3' = H3 := by
      funext q
      by_cases hq : ∃ k, d1 k ∧ f1 k = q
      · obtain ⟨k, hk, rfl⟩ := hq
        have p1 := (a1.1 k hk).2.2
        have p2 := (e2.1 k (x1 k hk).1).2.2.2
        rw [(x1 k hk).2, cf_cg (fun k hk => (x1 k hk).2) p1.1] at p2
        exact p2.trans p1.2.symm
      · have x6 := x6 q (by show q < H1 ∨ H1' ≤ q; omega) (fun k hk e => hq ⟨k, hk, e⟩)
        exact x6
    rw [y1, y2, y3]
  subst hH
  rw [e4]
  show Q (some (vf f' v)) H' = _
  rw [hv]
section OPS
variable {sc : Nat × (Int → Int)} {b1 b2 : Nat} {H : zH} {z z2 : zS} {c c2 : Nat} {Q : Option zV → zH → Prop}
theorem i0 : ∀ v ∈ ([] : List zV), ∃ x, v = .inl x := fun v hv => by cases hv
theorem i1 {x : Int} : ∀ v ∈ ([.inl x] : List zV), ∃ x, v = .inl x := fun v hv => ⟨x, List.mem_singleton.mp hv⟩
theorem iC {x : Int} {as : List zV} (h : ∀ v ∈ as, ∃ x, v = .inl x) : ∀ v ∈ ((.inl x :: as) : List zV), ∃ x, v = .inl x := fun v hv => by
  rcases List.mem_cons.mp hv with q | q
  · exact ⟨x, q⟩
  · exact h v q
theorem p_told {w : Int} (hP : PP b1 b2 H z z2 c c2) (hz : okZ z) : zca sc 73 [.inr (.inl (some b1)), .inl w] H Q = Q (some (.inl (toS z w))) H := PP_eq hP i1 (fun _ => rfl) (fun h hC => by rw [s5_told hC hz]; exact ⟨rfl, rfl⟩) Q
theorem p_word {k w : Int} (hP : PP b1 b2 H z z2 c c2) (hz : okZ z) : zca sc 74 [.inr (.inl (some b1)), .inl k, .inl w] H Q = Q (some (.inl (woS z k w))) H := PP_eq hP (iC i1) (fun _ => rfl) (fun h hC => by rw [s5_word hC hz]; exact ⟨rfl, rfl⟩) Q
theorem p_item {f g k w : Int} (hP : PP b1 b2 H z z2 c c2) (hz : okZ z) : zca sc 76 [.inr (.inl (some b1)), .inl f, .inl g, .inl k, .inl w] H Q = Q (some (.inl (itS z f g k w))) H := PP_eq hP (iC (iC (iC i1))) (fun _ => rfl) (fun h hC => by rw [s5_item hC hz]; exact ⟨rfl, rfl⟩) Q
theorem p_at {i w : Int} (hP : PP b1 b2 H z z2 c c2) (hz : okZ z) : zca sc 77 [.inr (.inl (some b1)), .inl i, .inl w] H Q = Q (some (.inl (atS z i w))) H := PP_eq hP (iC i1) (fun _ => rfl) (fun h hC => by rw [s5_at hC hz]; exact ⟨rfl, rfl⟩) Q
theorem p_find {k a : Int} (hP : PP b1 b2 H z z2 c c2) (hz : okZ z) : zca sc 79 [.inr (.inl (some b1)), .inl k, .inl a] H Q = Q (some (.inl (fnS z k a))) H := PP_eq hP (iC i1) (fun _ => rfl) (fun h hC => by rw [s5_find hC hz]; exact ⟨rfl, rfl⟩) Q
theorem p_mean (hP : PP b1 b2 H z z2 c c2) (hz : okZ z) : zca sc 80 [.inr (.inl (some b1))] H Q = Q (some (.inr (.inr (.inl (meS z))))) H := PP_eq hP i0 (fun _ => rfl) (fun h hC => by rw [s5_mean hC hz]; exact ⟨rfl, rfl⟩) Q
theorem p_groupE {f g w : Int} (hP : PP b1 b2 H z z2 c c2) (hz : okZ z) (h0 : (0 ≤ f ∧ f ≤ 1) ∧ (0 ≤ g ∧ g ≤ 6)) (hw : w = 0 ∨ w = 2 ∨ w = 4) : zca sc 75 [.inr (.inl (some b1)), .inl f, .inl g, .inl w] H Q = Q (some (.inl (grS z f g w))) H := PP_eq hP (iC (iC i1)) (fun _ => rfl) (fun h hC => by rw [s5_groupE hC hz h0 hw]; exact ⟨rfl, rfl⟩) Q
theorem p_totalE {w : Int} (hP : PP b1 b2 H z z2 c c2) (hz : okZ z) (hw : w = 0 ∨ w = 1 ∨ w = 2 ∨ w = 3) : zca sc 78 [.inr (.inl (some b1)), .inl w] H Q = Q (some (.inl (ttS z w))) H := PP_eq hP i1 (fun _ => rfl) (fun h hC => by rw [s5_totalE hC hz hw]; exact ⟨rfl, rfl⟩) Q
theorem p_group {f g w : Int} (hP : PP b1 b2 H z z2 c c2) (hz : okZ z) (hc : c ≤ 100000) : ∃ H', PP b1 b2 H' z z2 (c + 1) c2 ∧ ∀ Q, zca sc 75 [.inr (.inl (some b1)), .inl f, .inl g, .inl w] H Q = Q (some (.inl (grS z f g w))) H' := PP_run hP (iC (iC i1)) (fun h hC => s5_group hC hc hz (fun h' a _ => ⟨rfl, a⟩))
theorem p_total {w : Int} (hP : PP b1 b2 H z z2 c c2) (hz : okZ z) : ∃ H', PP b1 b2 H' z z2 (c + 1) c2 ∧ ∀ Q, zca sc 78 [.inr (.inl (some b1)), .inl w] H Q = Q (some (.inl (ttS z w))) H' := PP_run hP i1 (fun h hC => s5_total hC hz (fun h' a _ => ⟨rfl, a⟩))
theorem p_spell {x : Int} (hP : PP b1 b2 H z z2 c c2) : ∃ H', PP b1 b2 H' (spS z x).2 z2 (c + 1) c2 ∧ ∀ Q, zca sc 65 [.inr (.inl (some b1)), .inl x] H Q = Q (some (.inl (spS z x).1)) H' := PP_run hP i1 (fun h hC => s5_spell hC (fun h' a _ => ⟨rfl, a⟩))
theorem p_type (hP : PP b1 b2 H z z2 c c2) (hz : okZ z) : ∃ H', PP b1 b2 H' (tyS z).2 z2 (c + 1) c2 ∧ ∀ Q, zca sc 66 [.inr (.inl (some b1))] H Q = Q (some (.inl (tyS z).1)) H' := PP_run hP i0 (fun h hC => s5_type hC hz (fun h' a _ => ⟨rfl, a⟩))
theorem p_clear (hP : PP b1 b2 H z z2 c c2) : ∃ H', PP b1 b2 H' (clS z).2 z2 (c + 1) c2 ∧ ∀ Q, zca sc 67 [.inr (.inl (some b1))] H Q = Q (some (.inl (clS z).1)) H' := PP_run hP i0 (fun h hC => s5_clear hC (fun h' a _ => ⟨rfl, a⟩))
theorem p_insert {w : Int} (hP : PP b1 b2 H z z2 c c2) (hz : okZ z) : ∃ H', PP b1 b2 H' (inS z w).2 z2 (c + 1) c2 ∧ ∀ Q, zca sc 68 [.inr (.inl (some b1)), .inl w] H Q = Q (some (.inl (inS z w).1)) H' := PP_run hP i1 (fun h hC => s5_insert hC hz (fun h' a _ => ⟨rfl, a⟩))
theorem p_remove (hP : PP b1 b2 H z z2 c c2) (hz : okZ z) : ∃ H', PP b1 b2 H' (rmS z).2 z2 (c + 1) c2 ∧ ∀ Q, zca sc 69 [.inr (.inl (some b1))] H Q = Q (some (.inl (rmS z).1)) H' := PP_run hP i0 (fun h hC => s5_remove hC hz (fun h' a _ => ⟨rfl, a⟩))
theorem p_weigh {w : Int} (hP : PP b1 b2 H z z2 c c2) (hz : okZ z) : ∃ H', PP b1 b2 H' (weS z w).2 z2 (c + 1) c2 ∧ ∀ Q, zca sc 70 [.inr (.inl (some b1)), .inl w] H Q = Q (some (.inl (weS z w).1)) H' := PP_run hP i1 (fun h hC => s5_weigh hC hz (fun h' a _ => ⟨rfl, a⟩))
theorem p_rebuild (hP : PP b1 b2 H z z2 c c2) (hz : okZ z) : ∃ H', PP b1 b2 H' (rbS z).2 z2 (c + 1) c2 ∧ ∀ Q, zca sc 71 [.inr (.inl (some b1))] H Q = Q (some (.inl (rbS z).1)) H' := PP_run hP i0 (fun h hC => s5_rebuild hC hz (fun h' a _ => ⟨rfl, a⟩))
theorem p_undo (hP : PP b1 b2 H z z2 c c2) (hz : okZ z) : ∃ H', PP b1 b2 H' (unS z).2 z2 (c + 1) c2 ∧ ∀ Q, zca sc 72 [.inr (.inl (some b1))] H Q = Q (some (.inl (unS z).1)) H' := PP_run hP i0 (fun h hC => s5_undo hC hz (fun h' a _ => ⟨rfl, a⟩))
theorem p_keep {i : Int} (hP : PP b1 b2 H z z2 c c2) (hz : okZ z) : ∃ H', PP b1 b2 H' (keS z i).2 z2 (c + 1) c2 ∧ ∀ Q, zca sc 81 [.inr (.inl (some b1)), .inl i] H Q = Q (some (.inl (keS z i).1)) H' := PP_run hP i1 (fun h hC => s5_keep hC hz (fun h' a _ => ⟨rfl, a⟩))
theorem p_back {i : Int} (hP : PP b1 b2 H z z2 c c2) (hz : okZ z) : ∃ H', PP b1 b2 H' (baS z i).2 z2 (c + 1) c2 ∧ ∀ Q, zca sc 82 [.inr (.inl (some b1)), .inl i] H Q = Q (some (.inl (baS z i).1)) H' := PP_run hP i1 (fun h hC => s5_back hC hz (fun h' a _ => ⟨rfl, a⟩))
/-- its class -/
theorem p_rc {as : List zV} (hP : PP b1 b2 H z z2 c c2) : zrecv H 5 (.inr (.inl (some b1)) :: as) = true := by
  obtain ⟨d1, f1, h1, d2, f2, h2, a1, a2, a3, a4, -⟩ := hP
  have p1 := (a1.1 0 a2).2.2.2
  rw [a3, a4.1] at p1
  exact zrc p1
/-- both questions at the second object -/
theorem p_told2 {w : Int} (hP : PP b1 b2 H z z2 c c2) (hz : okZ z2) : zca sc 73 [.inr (.inl (some b2)), .inl w] H Q = Q (some (.inl (toS z2 w))) H := p_told (PP_sw hP) hz
theorem p_total2 {w : Int} (hP : PP b1 b2 H z z2 c c2) (hz : okZ z2) : ∃ H', PP b1 b2 H' z z2 c (c2 + 1) ∧ ∀ Q, zca sc 78 [.inr (.inl (some b2)), .inl w] H Q = Q (some (.inl (ttS z2 w))) H' := by
  obtain ⟨H', a1, a2⟩ := p_total (sc := sc) (w := w) (PP_sw hP) hz
  exact ⟨H', PP_sw a1, a2⟩
theorem p_rc2 {as : List zV} (hP : PP b1 b2 H z z2 c c2) : zrecv H 5 (.inr (.inl (some b2)) :: as) = true := p_rc (PP_sw hP)
end OPS
