/-! THE WHOLE CLASS -/
abbrev zS : Type := zDt × List zDt × Option zDt × Option zDt × Int × Int × (Int → Int)
abbrev zS.S (z : zS) : zDt := z.1
abbrev zS.H (z : zS) : List zDt := z.2.1
abbrev zS.I0 (z : zS) : Option zDt := z.2.2.1
abbrev zS.I1 (z : zS) : Option zDt := z.2.2.2.1
abbrev zS.p (z : zS) : Int := z.2.2.2.2.1
abbrev zS.n (z : zS) : Int := z.2.2.2.2.2.1
abbrev zS.T (z : zS) : Int → Int := z.2.2.2.2.2.2
abbrev zS.uP (z : zS) (v : Int) : zS := (z.S, z.H, z.I0, z.I1, v, z.n, z.T)
abbrev zS.uN (z : zS) (v : Int) : zS := (z.S, z.H, z.I0, z.I1, z.p, v, z.T)
abbrev zS.uT (z : zS) (v : Int) (f : Int → Int) : zS := (z.S, z.H, z.I0, z.I1, z.p, v, f)
abbrev zS.uS (z : zS) (D : zDt) (l : List zDt) : zS := (D, l, z.I0, z.I1, z.p, z.n, z.T)
def okZ (z : zS) : Prop := okDt z.S ∧ (∀ D ∈ z.H, okDt D) ∧ z.H.length ≤ 8 ∧ (∀ D, z.I0 = some D → okDt D) ∧ (∀ D, z.I1 = some D → okDt D) ∧ (z.p = 0 ∨ wd z.p) ∧ okT z.T z.n
theorem okZ_p {z : zS} (h : okZ z) : 0 ≤ z.p ∧ z.p ≤ 444444 ∧ 0 ≤ nd z.p ∧ nd z.p ≤ 6 := by
  have := nd_nn z.p
  rcases h.2.2.2.2.2.1 with q | q
  · rw [q, nd_0 (Int.le_refl _)]; omega
  · have := wd_nd q
    unfold wd at q
    omega
def rK (h : zH) (H : List zDt) (I0 I1 : Option zDt) (c : Nat) : Prop := ∃ a nx o D, rSt h 32 a 18 20 nx H.length o D ∧ 0 ≤ nx ∧ nx < 8 ∧ H.length ≤ 8 ∧ (∀ j : Nat, j < H.length → ∃ k, o ((nx - 1 - j) % 8) = some k ∧ H[j]? = some (D k)) ∧ I0 = (o 8).map D ∧ I1 = (o 9).map D ∧ a ≤ c
def rC (h : zH) (z : zS) (c : Nat) : Prop := zgt h 0 = .inl (5, [.inr (.inl (some 1)), .inr (.inl (some 5)), .inr (.inl (some 18)), .inr (.inl (some 20)), .inr (.inl (some 21)), .inl z.p]) ∧ rTx h 1 z.n z.T ∧ rDt h 5 z.S ∧ rK h z.H z.I0 z.I1 c ∧ (∃ rd, rNw h 21 rd ∧ 0 ≤ rd ∧ rd ≤ c) ∧ h.2.1 ≤ 20000 + 449 * c
def frC (h h' : zH) : Prop := ∀ k, 24 ≤ k → k < 32 → zgt h' k = zgt h k
theorem frC_rf {h : zH} : frC h h := fun _ _ _ => rfl
theorem frC_tr {h h1 h2 : zH} (a : frC h h1) (b : frC h1 h2) : frC h h2 := fun k h1 h2 => (b k h1 h2).trans (a k h1 h2)
theorem frC_fr {h h' : zH} {b n : Nat} (a : fr h h' b n) (hb : b + n ≤ 24) : frC h h' := fun k h1 h2 => a.2.2 k (by omega)
theorem rDt_eq {h h' : zH} {b : Nat} {S : zDt} (hd : rDt h b S) (hf : ∀ k, b ≤ k → k < b + 13 → zgt h' k = zgt h k) : rDt h' b S := by
  obtain ⟨e0, ⟨G, C, W, e1⟩, ⟨L0, ⟨G0, C0, W0, e2⟩, e2'⟩, ⟨L1, ⟨G1, C1, W1, e3⟩, e3'⟩⟩ := hd
  refine ⟨by rw [hf _ (by omega) (by omega)]; exact e0, ⟨G, C, W, ?_⟩, ⟨L0, ⟨G0, C0, W0, ?_⟩, e2'⟩, ⟨L1, ⟨G1, C1, W1, ?_⟩, e3'⟩⟩
  · rw [hf _ (by omega) (by omega), hf _ (by omega) (by omega), hf _ (by omega) (by omega), hf _ (by omega) (by omega)]; exact e1
  · rw [hf _ (by omega) (by omega), hf _ (by omega) (by omega), hf _ (by omega) (by omega), hf _ (by omega) (by omega)]; exact e2
  · rw [hf _ (by omega) (by omega), hf _ (by omega) (by omega), hf _ (by omega) (by omega), hf _ (by omega) (by omega)]; exact e3
theorem rTx_eq {h h' : zH} {b : Nat} {n : Int} {T : Int → Int} (hX : rTx h b n T) (hf : ∀ k, b ≤ k → k < b + 4 → zgt h' k = zgt h k) : rTx h' b n T := by
  obtain ⟨e0, e1, ⟨f, e2⟩, g, e3⟩ := hX
  exact ⟨by rw [hf _ (by omega) (by omega)]; exact e0, by rw [hf _ (by omega) (by omega)]; exact e1, ⟨f, by rw [hf _ (by omega) (by omega)]; exact e2⟩, g, by rw [hf _ (by omega) (by omega)]; exact e3⟩
theorem rNw_eq {h h' : zH} {b : Nat} {rd : Int} (hN : rNw h b rd) (hf : ∀ k, b ≤ k → k < b + 3 → zgt h' k = zgt h k) : rNw h' b rd := by
  obtain ⟨sz, R, C, ⟨g0, g1, g2⟩, r⟩ := hN
  exact ⟨sz, R, C, ⟨by rw [hf _ (by omega) (by omega)]; exact g0, by rw [hf _ (by omega) (by omega)]; exact g1, by rw [hf _ (by omega) (by omega)]; exact g2⟩, r⟩
theorem rK_e0 {h h' : zH} {H : List zDt} {I0 I1 : Option zDt} {c : Nat} (hK : rK h H I0 I1 c) (h1 : h'.1 = h.1) (hf : ∀ k, (k = 18 ∨ k = 19 ∨ k = 20 ∨ 32 ≤ k) → zgt h' k = zgt h k) : rK h' H I0 I1 c := by
  obtain ⟨a, nx, o, D, ⟨r1, ⟨g, ⟨r2, r3⟩, r4⟩, ⟨gi, r5, r6⟩, r7, r8, r9⟩, q1, q2, q3, q4, q5, q6, q7⟩ := hK
  refine ⟨a, nx, o, D, ⟨h1.trans r1, ⟨g, ⟨?_, ?_⟩, r4⟩, ⟨gi, ?_, r6⟩, fun j hj => ⟨rDt_eq (r7 j hj).1 (fun k e1 e2 => hf k (by omega)), (r7 j hj).2⟩, r8, r9⟩, q1, q2, q3, q4, q5, q6, by omega⟩
  · rw [hf _ (by omega)]; exact r2
  · rw [hf _ (by omega)]; exact r3
  · rw [hf _ (by omega)]; exact r5
theorem rK_eq {h h' : zH} {H : List zDt} {I0 I1 : Option zDt} {c : Nat} (hK : rK h H I0 I1 c) (h1 : h'.1 = h.1) (hf : ∀ k, (k = 18 ∨ k = 19 ∨ k = 20 ∨ 32 ≤ k) → zgt h' k = zgt h k) : rK h' H I0 I1 (c + 1) := by
  obtain ⟨a, nx, o, D, q0, q1, q2, q3, q4, q5, q6, q7⟩ := rK_e0 hK h1 hf
  exact ⟨a, nx, o, D, q0, q1, q2, q3, q4, q5, q6, by omega⟩
theorem rC_c {h : zH} {z : zS} {c : Nat} (hC : rC h z c) : rC h z (c + 1) := by
  obtain ⟨c0, c1, c2, c3, ⟨rd, c4, c5, c6⟩, c7⟩ := hC
  exact ⟨c0, c1, c2, rK_eq c3 rfl (fun _ _ => rfl), ⟨rd, c4, c5, by omega⟩, by omega⟩
theorem rC_p {h : zH} {z : zS} {c : Nat} {v : Int} (hC : rC h z c) : rC (zuH h 0 (.inl (5, [.inr (.inl (some 1)), .inr (.inl (some 5)), .inr (.inl (some 18)), .inr (.inl (some 20)), .inr (.inl (some 21)), .inl v]))) (z.uP v) (c + 1) := by
  obtain ⟨c0, c1, c2, c3, ⟨rd, c4, c5, c6⟩, c7⟩ := hC
  refine ⟨by rw [zgt_u, if_pos rfl], rTx_eq c1 (fun k a b => ?_), rDt_eq c2 (fun k a b => ?_), rK_eq c3 rfl (fun k a => ?_), ⟨rd, rNw_eq c4 (fun k a b => ?_), c5, by omega⟩, by show h.2.1 ≤ _; omega⟩
  all_goals rw [zgt_u, if_neg (by omega)]
theorem frC_p {h : zH} {c : zC} : frC h (zuH h 0 c) := fun k a b => by rw [zgt_u, if_neg (by omega)]
theorem rC_T {h h' : zH} {z : zS} {c : Nat} {n : Int} {T : Int → Int} (hC : rC h z c) (hX : rTx h' 1 n T) (hf : fr h h' 1 4) : rC h' (z.uT n T) (c + 1) := by
  obtain ⟨c0, c1, c2, c3, ⟨rd, c4, c5, c6⟩, c7⟩ := hC
  refine ⟨(hf.2.2 0 (by omega)).trans c0, hX, rDt_eq c2 (fun k a b => hf.2.2 k (by omega)), rK_eq c3 hf.1 (fun k a => hf.2.2 k (by omega)), ⟨rd, rNw_eq c4 (fun k a b => hf.2.2 k (by omega)), c5, by omega⟩, by rw [hf.2.1]; omega⟩
theorem rC_N {h h' : zH} {z : zS} {c : Nat} {rd : Int} {N : List Int} (hC : rC h z c) (hX : rNs h' 21 rd N) (hr : 0 ≤ rd ∧ rd ≤ (c + 1 : Nat)) (hf : fr h h' 21 3) : rC h' z (c + 1) := by
  obtain ⟨c0, c1, c2, c3, -, c7⟩ := hC
  refine ⟨(hf.2.2 0 (by omega)).trans c0, rTx_eq c1 (fun k a b => hf.2.2 k (by omega)), rDt_eq c2 (fun k a b => hf.2.2 k (by omega)), rK_eq c3 hf.1 (fun k a => hf.2.2 k (by omega)), ⟨rd, rNw_of hX, hr⟩, by rw [hf.2.1]; omega⟩
/-! the answers -/
def wrS (z : zS) (x : Int) : Int × zS := if 0 ≤ x ∧ x ≤ 3 then (if 6 ≤ nd z.p then (-3, z) else (nd (z.p * 10 + x + 1), z.uP (z.p * 10 + x + 1))) else (-1, z)
def wiS (z : zS) : Int × zS := (nd z.p, z.uP (0))
def spS (z : zS) (c : Int) : Int × zS := if wd c then (nd c, z.uP (c)) else (-1, z)
def tyS (z : zS) : Int × zS := if z.p = 0 then (-2, z) else if 60 < z.n + nd z.p then (-3, z) else (z.n + nd z.p, z.uT (z.n + nd z.p) (apR z.p (nd z.p).toNat z.T z.n))
def clS (z : zS) : Int × zS := (z.n, z.uN (0))
theorem nd_lt5 {p : Int} (h : ¬ 6 ≤ nd p) : p < 100000 := by
  have := (tp_le (c := p) 5).mp
  rcases Int.lt_or_le p 100000 with q | q
  · exact q
  · have := this q; omega
section
variable {sc : Nat × (Int → Int)} {h : zH} {Q : Option zV → zH → Prop} {z : zS} {c : Nat}
theorem s5_spell {x : Int} (hC : rC h z c) (hQ : ∀ h', rC h' (spS z x).2 (c + 1) → frC h h' → Q (some (.inl (spS z x).1)) h') : zca sc 65 [.inr (.inl (some 0)), .inl x] h Q := by
  have c0 := hC.1
  unfold spS at hQ
  by_cases h1 : wd x
  · rw [if_pos h1] at hQ
    have h1' := h1
    unfold wd at h1'
    obtain ⟨a1, a2, -⟩ := h1'
    simp (disch := omega) only [e_65, w_65_0, w_65_1, w_65_2, w_65_3, w_65_4, w_65_5, w_65_6, w_65_7, w_65_8, w_65_9, w_65_10, w_65_11, getK, putK, ialK, iasK, aalK, aasK, alnK, zgt_u, zgt_a, Option.toList_some, Option.toList_none, List.cons_append, List.nil_append, List.map_cons, List.map_nil, List.replicate, ite_true, ite_false, if_true, if_false, List.getElem?_cons_zero, List.getElem?_cons_succ, List.set_cons_zero, List.set_cons_succ, true_and, and_true, beq_self_eq_true, zite, Int.toNat_natCast, if_pos, if_neg, zwr_id, zand, c0, s_isWord5, zb_eq, zb_ne, h1, not_true, s_lettersOf5]
    exact hQ _ (rC_p hC) frC_p
  · rw [if_neg h1] at hQ
    simp (disch := omega) only [e_65, w_65_0, w_65_1, w_65_2, w_65_3, w_65_4, w_65_5, w_65_6, w_65_7, w_65_8, w_65_9, w_65_10, w_65_11, getK, putK, ialK, iasK, aalK, aasK, alnK, zgt_u, zgt_a, Option.toList_some, Option.toList_none, List.cons_append, List.nil_append, List.map_cons, List.map_nil, List.replicate, ite_true, ite_false, if_true, if_false, List.getElem?_cons_zero, List.getElem?_cons_succ, List.set_cons_zero, List.set_cons_succ, true_and, and_true, beq_self_eq_true, zite, Int.toNat_natCast, if_pos, if_neg, zwr_id, zand, c0, s_isWord5, zb_eq, zb_ne, h1, not_false_eq_true, s_lettersOf5]
    exact hQ h (rC_c hC) frC_rf
theorem s5_type (hC : rC h z c) (hz : okZ z) (hQ : ∀ h', rC h' (tyS z).2 (c + 1) → frC h h' → Q (some (.inl (tyS z).1)) h') : zca sc 66 [.inr (.inl (some 0))] h Q := by
  have hp := okZ_p hz
  have c0 := hC.1
  have c1 := hC.2.1
  have hT := hz.2.2.2.2.2.2
  have h60 := hT.2.1
  have h00 := hT.1
  unfold tyS at hQ
  by_cases h1 : z.p = 0
  · rw [if_pos h1] at hQ
    simp (disch := omega) only [e_66, w_66_0, w_66_1, w_66_2, w_66_3, w_66_4, w_66_5, w_66_6, w_66_7, w_66_8, w_66_9, w_66_10, w_66_11, w_66_12, w_66_13, w_66_14, w_66_15, w_66_16, w_66_17, w_66_18, w_66_19, w_66_20, w_66_21, w_66_22, w_66_23, w_66_24, getK, putK, ialK, iasK, aalK, aasK, alnK, zgt_u, zgt_a, Option.toList_some, Option.toList_none, List.cons_append, List.nil_append, List.map_cons, List.map_nil, List.replicate, ite_true, ite_false, if_true, if_false, List.getElem?_cons_zero, List.getElem?_cons_succ, List.set_cons_zero, List.set_cons_succ, true_and, and_true, beq_self_eq_true, zite, Int.toNat_natCast, if_pos, if_neg, zwr_id, zand, c0]
    exact hQ h (rC_c hC) frC_rf
  · rw [if_neg h1] at hQ
    have hw : wd z.p := by rcases hz.2.2.2.2.2.1 with q | q; exact absurd q h1; exact q
    by_cases h2 : 60 < z.n + nd z.p
    · rw [if_pos h2] at hQ
      simp (disch := omega) only [e_66, w_66_0, w_66_1, w_66_2, w_66_3, w_66_4, w_66_5, w_66_6, w_66_7, w_66_8, w_66_9, w_66_10, w_66_11, w_66_12, w_66_13, w_66_14, w_66_15, w_66_16, w_66_17, w_66_18, w_66_19, w_66_20, w_66_21, w_66_22, w_66_23, w_66_24, getK, putK, ialK, iasK, aalK, aasK, alnK, zgt_u, zgt_a, Option.toList_some, Option.toList_none, List.cons_append, List.nil_append, List.map_cons, List.map_nil, List.replicate, ite_true, ite_false, if_true, if_false, List.getElem?_cons_zero, List.getElem?_cons_succ, List.set_cons_zero, List.set_cons_succ, true_and, and_true, beq_self_eq_true, zite, Int.toNat_natCast, if_pos, if_neg, zwr_id, zand, c0, rTx_rc c1, s_length c1, s_lettersOf5]
      exact hQ h (rC_c hC) frC_rf
    · rw [if_neg h2] at hQ
      simp (disch := omega) only [e_66, w_66_0, w_66_1, w_66_2, w_66_3, w_66_4, w_66_5, w_66_6, w_66_7, w_66_8, w_66_9, w_66_10, w_66_11, w_66_12, w_66_13, w_66_14, w_66_15, w_66_16, w_66_17, w_66_18, w_66_19, w_66_20, w_66_21, w_66_22, w_66_23, w_66_24, getK, putK, ialK, iasK, aalK, aasK, alnK, zgt_u, zgt_a, Option.toList_some, Option.toList_none, List.cons_append, List.nil_append, List.map_cons, List.map_nil, List.replicate, ite_true, ite_false, if_true, if_false, List.getElem?_cons_zero, List.getElem?_cons_succ, List.set_cons_zero, List.set_cons_succ, true_and, and_true, beq_self_eq_true, zite, Int.toNat_natCast, if_pos, if_neg, zwr_id, zand, c0, rTx_rc c1, s_length c1, s_lettersOf5]
      refine s_append c1 hT hw (by omega) (fun h' a1 a2 => ?_)
      have c0' : zgt h' 0 = _ := (a2.2.2 0 (by omega)).trans c0
      simp (disch := omega) only [e_66, w_66_0, w_66_1, w_66_2, w_66_3, w_66_4, w_66_5, w_66_6, w_66_7, w_66_8, w_66_9, w_66_10, w_66_11, w_66_12, w_66_13, w_66_14, w_66_15, w_66_16, w_66_17, w_66_18, w_66_19, w_66_20, w_66_21, w_66_22, w_66_23, w_66_24, getK, putK, ialK, iasK, aalK, aasK, alnK, zgt_u, zgt_a, Option.toList_some, Option.toList_none, List.cons_append, List.nil_append, List.map_cons, List.map_nil, List.replicate, ite_true, ite_false, if_true, if_false, List.getElem?_cons_zero, List.getElem?_cons_succ, List.set_cons_zero, List.set_cons_succ, true_and, and_true, beq_self_eq_true, zite, Int.toNat_natCast, if_pos, if_neg, zwr_id, zand, c0', rTx_rc a1, s_length a1]
      exact hQ h' (rC_T hC a1 a2) (frC_fr a2 (by omega))
theorem s5_clear (hC : rC h z c) (hQ : ∀ h', rC h' (clS z).2 (c + 1) → frC h h' → Q (some (.inl (clS z).1)) h') : zca sc 67 [.inr (.inl (some 0))] h Q := by
  have c0 := hC.1
  have c1 := hC.2.1
  simp (disch := omega) only [e_67, w_67_0, w_67_1, w_67_2, w_67_3, w_67_4, w_67_5, w_67_6, w_67_7, w_67_8, getK, putK, ialK, iasK, aalK, aasK, alnK, zgt_u, zgt_a, Option.toList_some, Option.toList_none, List.cons_append, List.nil_append, List.map_cons, List.map_nil, List.replicate, ite_true, ite_false, if_true, if_false, List.getElem?_cons_zero, List.getElem?_cons_succ, List.set_cons_zero, List.set_cons_succ, true_and, and_true, beq_self_eq_true, zite, Int.toNat_natCast, if_pos, if_neg, zwr_id, zand, c0, rTx_rc c1, s_length c1]
  refine s_makeEmpty4 c1 (fun h' a1 a2 => ?_)
  simp (disch := omega) only [e_67, w_67_0, w_67_1, w_67_2, w_67_3, w_67_4, w_67_5, w_67_6, w_67_7, w_67_8, getK, putK, ialK, iasK, aalK, aasK, alnK, zgt_u, zgt_a, Option.toList_some, Option.toList_none, List.cons_append, List.nil_append, List.map_cons, List.map_nil, List.replicate, ite_true, ite_false, if_true, if_false, List.getElem?_cons_zero, List.getElem?_cons_succ, List.set_cons_zero, List.set_cons_succ, true_and, and_true, beq_self_eq_true, zite, Int.toNat_natCast, if_pos, if_neg, zwr_id, zand]
  exact hQ h' (rC_T hC a1 a2) (frC_fr a2 (by omega))
end
