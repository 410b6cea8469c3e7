/-! THE LAW -/
def lwQ (r : Option zV) (h' : zH) : Prop := r = some (.inl 1) ∧ h'.1 ≤ 600000 ∧ h'.2.1 ≤ 7302250
section
variable {sc : Nat × (Int → Int)}
section
variable {b1 b2 : Nat} {z : zS} {Q : Option zV → zH → Prop}
theorem lp_al4 {H : zH} {c c2 : Nat} (hP : PP b1 b2 H z z c c2) (hz : okZ z) (hend : zwp sc 95 25 [some (.inr (.inl (some b1))), some (.inr (.inl (some b2))), some (.inl 1), some (.inl 10)] [] H Q) : ∀ (j : Nat) (k : Int), k + j = 10 → 0 ≤ k → zwp sc 95 4 [some (.inr (.inl (some b1))), some (.inr (.inl (some b2))), some (.inl 1), some (.inl k)] [] H Q := by
  intro j
  induction j with
  | zero =>
    intro k hk h0
    have h10 : k = 10 := by omega
    subst h10
    rw [w_95_4]
    simp (disch := omega) only [e_95, w_95_5, w_95_6, getK, putK, ialK, iasK, aalK, aasK, alnK, zgt_u, zgt_a, Option.toList_some, Option.toList_none, List.cons_append, List.nil_append, List.map_cons, List.map_nil, List.replicate, ite_true, ite_false, if_true, if_false, List.getElem?_cons_zero, List.getElem?_cons_succ, List.set_cons_zero, List.set_cons_succ, true_and, and_true, beq_self_eq_true, zite, Int.toNat_natCast, if_pos, if_neg, zwr_id, zand]
    exact hend
  | succ j ih =>
    intro k hk h0
    have hih := ih (k + 1) (by omega) (by omega)
    rw [w_95_4]
    by_cases h6 : k = 6
    · simp (disch := omega) only [e_95, w_95_5, w_95_6, w_95_7, w_95_8, w_95_9, w_95_10, w_95_11, w_95_12, w_95_13, w_95_14, w_95_15, w_95_16, w_95_17, w_95_18, w_95_19, w_95_20, w_95_21, w_95_22, w_95_23, w_95_24, getK, putK, ialK, iasK, aalK, aasK, alnK, zgt_u, zgt_a, Option.toList_some, Option.toList_none, List.cons_append, List.nil_append, List.map_cons, List.map_nil, List.replicate, ite_true, ite_false, if_true, if_false, List.getElem?_cons_zero, List.getElem?_cons_succ, List.set_cons_zero, List.set_cons_succ, true_and, and_true, beq_self_eq_true, zite, Int.toNat_natCast, if_pos, if_neg, zwr_id, zand, p_rc hP, p_rc2 hP, p_told hP hz, p_told2 hP hz]
      exact hih
    · simp (disch := omega) only [e_95, w_95_5, w_95_6, w_95_7, w_95_8, w_95_9, w_95_10, w_95_11, w_95_12, w_95_13, w_95_14, w_95_15, w_95_16, w_95_17, w_95_18, w_95_19, w_95_20, w_95_21, w_95_22, w_95_23, w_95_24, getK, putK, ialK, iasK, aalK, aasK, alnK, zgt_u, zgt_a, Option.toList_some, Option.toList_none, List.cons_append, List.nil_append, List.map_cons, List.map_nil, List.replicate, ite_true, ite_false, if_true, if_false, List.getElem?_cons_zero, List.getElem?_cons_succ, List.set_cons_zero, List.set_cons_succ, true_and, and_true, beq_self_eq_true, zite, Int.toNat_natCast, if_pos, if_neg, zwr_id, zand, p_rc hP, p_rc2 hP, p_told hP hz, p_told2 hP hz, ne_eq, not_true]
      exact hih
theorem lp_al27 (hz : okZ z) : ∀ (j : Nat) (k : Int) (H : zH) (c c2 : Nat), k + j = 6 → 0 ≤ k → PP b1 b2 H z z c c2 → (∀ H', PP b1 b2 H' z z (c + j) (c2 + j) → Q (some (.inl 1)) H') → zwp sc 95 27 [some (.inr (.inl (some b1))), some (.inr (.inl (some b2))), some (.inl 1), some (.inl k)] [] H Q := by
  intro j
  induction j with
  | zero =>
    intro k H c c2 hk h0 hP hQ
    have h6 : k = 6 := by omega
    subst h6
    rw [w_95_27]
    simp (disch := omega) only [e_95, w_95_28, w_95_29, w_95_30, w_95_31, w_95_32, w_95_33, w_95_34, w_95_35, w_95_36, w_95_37, w_95_38, w_95_39, w_95_40, w_95_41, w_95_42, w_95_43, w_95_44, w_95_45, w_95_46, getK, putK, ialK, iasK, aalK, aasK, alnK, zgt_u, zgt_a, Option.toList_some, Option.toList_none, List.cons_append, List.nil_append, List.map_cons, List.map_nil, List.replicate, ite_true, ite_false, if_true, if_false, List.getElem?_cons_zero, List.getElem?_cons_succ, List.set_cons_zero, List.set_cons_succ, true_and, and_true, beq_self_eq_true, zite, Int.toNat_natCast, if_pos, if_neg, zwr_id, zand, true_or, or_true]
    exact hQ H hP
  | succ j ih =>
    intro k H c c2 hk h0 hP hQ
    obtain ⟨H1, a1, a2⟩ := p_total (sc := sc) (w := k) hP hz
    obtain ⟨H2, d1, d2⟩ := p_total2 (sc := sc) (w := k) a1 hz
    have hih := ih (k + 1) H2 (c + 1) (c2 + 1) (by omega) (by omega) d1 (fun H' hP' => hQ H' (by rw [show c + (j + 1) = c + 1 + j by omega, show c2 + (j + 1) = c2 + 1 + j by omega]; exact hP'))
    rw [w_95_27]
    simp (disch := omega) only [e_95, w_95_28, w_95_29, w_95_30, w_95_31, w_95_32, w_95_33, w_95_34, w_95_35, w_95_36, w_95_37, w_95_38, w_95_39, w_95_40, w_95_41, w_95_42, w_95_43, w_95_44, getK, putK, ialK, iasK, aalK, aasK, alnK, zgt_u, zgt_a, Option.toList_some, Option.toList_none, List.cons_append, List.nil_append, List.map_cons, List.map_nil, List.replicate, ite_true, ite_false, if_true, if_false, List.getElem?_cons_zero, List.getElem?_cons_succ, List.set_cons_zero, List.set_cons_succ, true_and, and_true, beq_self_eq_true, zite, Int.toNat_natCast, if_pos, if_neg, zwr_id, zand, p_rc hP, a2, p_rc2 a1, d2, ne_eq, not_true]
    exact hih
theorem l_areAlike {H : zH} {c c2 : Nat} (hP : PP b1 b2 H z z c c2) (hz : okZ z) (hQ : ∀ H', PP b1 b2 H' z z (c + 6) (c2 + 6) → Q (some (.inl 1)) H') : zca sc 95 [.inr (.inl (some b1)), .inr (.inl (some b2))] H Q := by
  simp (disch := omega) only [e_95, w_95_0, w_95_1, w_95_2, w_95_3, getK, putK, ialK, iasK, aalK, aasK, alnK, zgt_u, zgt_a, Option.toList_some, Option.toList_none, List.cons_append, List.nil_append, List.map_cons, List.map_nil, List.replicate, ite_true, ite_false, if_true, if_false, List.getElem?_cons_zero, List.getElem?_cons_succ, List.set_cons_zero, List.set_cons_succ, true_and, and_true, beq_self_eq_true, zite, Int.toNat_natCast, if_pos, if_neg, zwr_id, zand]
  refine lp_al4 hP hz ?_ 10 0 (by omega) (Int.le_refl _)
  simp (disch := omega) only [e_95, w_95_25, w_95_26, getK, putK, ialK, iasK, aalK, aasK, alnK, zgt_u, zgt_a, Option.toList_some, Option.toList_none, List.cons_append, List.nil_append, List.map_cons, List.map_nil, List.replicate, ite_true, ite_false, if_true, if_false, List.getElem?_cons_zero, List.getElem?_cons_succ, List.set_cons_zero, List.set_cons_succ, true_and, and_true, beq_self_eq_true, zite, Int.toNat_natCast, if_pos, if_neg, zwr_id, zand]
  exact lp_al27 hz 6 0 H c c2 (by omega) (Int.le_refl _) hP hQ
end
theorem lp_law : ∀ (j t : Nat) (H : zH) (z : zS) (l4 l5 l6 l7 : Option zV), t + j = 28 → okW z → PP 0 24 H z z (34 * t) (3 * t) → zwp sc 96 10 [some (.inr (.inr (.inr (.inr ())))), some (.inr (.inl (some 0))), some (.inr (.inl (some 24))), some (.inl (t : Int)), l4, l5, l6, l7] [] H lwQ := by
  intro j
  induction j with
  | zero =>
    intro t H z l4 l5 l6 l7 ht hz hP
    have h28 : t = 28 := by omega
    subst h28
    rw [w_96_10]
    simp (disch := omega) only [e_96, w_96_11, w_96_12, getK, putK, ialK, iasK, aalK, aasK, alnK, zgt_u, zgt_a, Option.toList_some, Option.toList_none, List.cons_append, List.nil_append, List.map_cons, List.map_nil, List.replicate, ite_true, ite_false, if_true, if_false, List.getElem?_cons_zero, List.getElem?_cons_succ, List.set_cons_zero, List.set_cons_succ, true_and, and_true, beq_self_eq_true, zite, Int.toNat_natCast, if_pos, if_neg, zwr_id, zand]
    simp (disch := omega) only [e_96, w_96_75, w_96_76, w_96_77, getK, putK, ialK, iasK, aalK, aasK, alnK, zgt_u, zgt_a, Option.toList_some, Option.toList_none, List.cons_append, List.nil_append, List.map_cons, List.map_nil, List.replicate, ite_true, ite_false, if_true, if_false, List.getElem?_cons_zero, List.getElem?_cons_succ, List.set_cons_zero, List.set_cons_succ, true_and, and_true, beq_self_eq_true, zite, Int.toNat_natCast, if_pos, if_neg, zwr_id, zand]
    refine l_areAlike hP hz.1 (fun H' hP' => ?_)
    have hs := PP_sz hP'
    simp (disch := omega) only [e_96, w_96_78, getK, putK, ialK, iasK, aalK, aasK, alnK, zgt_u, zgt_a, Option.toList_some, Option.toList_none, List.cons_append, List.nil_append, List.map_cons, List.map_nil, List.replicate, ite_true, ite_false, if_true, if_false, List.getElem?_cons_zero, List.getElem?_cons_succ, List.set_cons_zero, List.set_cons_succ, true_and, and_true, beq_self_eq_true, zite, Int.toNat_natCast, if_pos, if_neg, zwr_id, zand, true_or, or_true]
    exact ⟨rfl, by omega, by omega⟩
  | succ j ih =>
    intro t H z l4 l5 l6 l7 ht hz hP
    obtain ⟨a, z', hz', hch⟩ := l_change sc z (cellF sc (2 * (t : Int))) (cellF sc (2 * (t : Int) + 1)) hz
    obtain ⟨H1, p1, q1⟩ := hch 0 24 H z _ _ hP
    obtain ⟨H2, p2, q2⟩ := hch 24 0 H1 z' _ _ (PP_sw p1)
    have p2 := PP_sw p2
    obtain ⟨H3, p3, q3⟩ := l_areGroups (sc := sc) hz' p2 (by omega)
    obtain ⟨H4, p4, q4⟩ := l_areMatches (sc := sc) hz'.1 p3
    have t0 : toS z' 0 = (z'.S.1.length : Int) := rfl
    have hih := fun l4 l5 l6 l7 => ih (t + 1) H4 z' l4 l5 l6 l7 (by omega) hz' (by rw [show 34 * (t + 1) = 34 * t + 3 + 28 + 3 by omega, show 3 * (t + 1) = 3 * t + 3 by omega]; exact p4)
    rw [show ((t + 1 : Nat) : Int) = (t : Int) + 1 by omega] at hih
    have key : zwp sc 96 44 [some (.inr (.inr (.inr (.inr ())))), some (.inr (.inl (some 0))), some (.inr (.inl (some 24))), some (.inl (t : Int)), some (.inl (cellF sc (2 * (t : Int)))), some (.inl (cellF sc (2 * (t : Int) + 1))), l6, l7] [] H4 lwQ := by
      generalize hn : (z'.S.1.length : Int) = n at t0
      by_cases h0 : n = 0
      · simp (disch := omega) only [e_96, w_96_44, w_96_45, w_96_46, w_96_47, w_96_48, w_96_49, w_96_50, w_96_51, w_96_52, w_96_53, w_96_54, w_96_55, w_96_56, w_96_57, w_96_58, w_96_59, w_96_60, w_96_61, w_96_62, w_96_63, w_96_64, w_96_65, w_96_66, w_96_67, w_96_68, w_96_69, w_96_70, w_96_71, w_96_72, w_96_73, w_96_74, getK, putK, ialK, iasK, aalK, aasK, alnK, zgt_u, zgt_a, Option.toList_some, Option.toList_none, List.cons_append, List.nil_append, List.map_cons, List.map_nil, List.replicate, ite_true, ite_false, if_true, if_false, List.getElem?_cons_zero, List.getElem?_cons_succ, List.set_cons_zero, List.set_cons_succ, true_and, and_true, beq_self_eq_true, zite, Int.toNat_natCast, if_pos, if_neg, zwr_id, zand, p_rc p4, p_told p4 hz'.1, t0]
        exact hih _ _ _ _
      · have hn0 : 0 < n := by omega
        have hb := lowF_b (x := (Int32.ofInt (cellF sc (2 * (t : Int) + 1)) >>> (Int32.ofInt 3 &&& 31)).toInt) hn0
        obtain ⟨w0, w1, -⟩ := wo_at (z := z') hb.1 (by rw [hn]; exact hb.2)
        have hl := fun Q => l_isLive (sc := sc) (Q := Q) p4 hz' hb.1 (by rw [hn]; exact hb.2)
        simp (disch := omega) only [e_96, w_96_44, w_96_45, w_96_46, w_96_47, w_96_48, w_96_49, w_96_50, w_96_51, w_96_52, w_96_53, w_96_54, w_96_55, w_96_56, w_96_57, w_96_58, w_96_59, w_96_60, w_96_61, w_96_62, w_96_63, w_96_64, w_96_65, w_96_66, w_96_67, w_96_68, w_96_69, w_96_70, w_96_71, w_96_72, w_96_73, w_96_74, getK, putK, ialK, iasK, aalK, aasK, alnK, zgt_u, zgt_a, Option.toList_some, Option.toList_none, List.cons_append, List.nil_append, List.map_cons, List.map_nil, List.replicate, ite_true, ite_false, if_true, if_false, List.getElem?_cons_zero, List.getElem?_cons_succ, List.set_cons_zero, List.set_cons_succ, true_and, and_true, beq_self_eq_true, zite, Int.toNat_natCast, if_pos, if_neg, zwr_id, zand, p_rc p4, p_told p4 hz'.1, t0, l_low, p_word p4 hz'.1, w0, w1, hl]
        exact hih _ _ _ _
    rw [w_96_10]
    simp (disch := omega) only [e_96, w_96_11, w_96_12, w_96_13, w_96_14, w_96_15, w_96_16, w_96_17, w_96_18, w_96_19, w_96_20, w_96_21, w_96_22, w_96_23, w_96_24, w_96_25, w_96_26, w_96_27, w_96_28, w_96_29, w_96_30, w_96_31, w_96_32, w_96_33, w_96_34, w_96_35, w_96_36, w_96_37, w_96_38, w_96_39, w_96_40, w_96_41, w_96_42, w_96_43, getK, putK, ialK, iasK, aalK, aasK, alnK, zgt_u, zgt_a, Option.toList_some, Option.toList_none, List.cons_append, List.nil_append, List.map_cons, List.map_nil, List.replicate, ite_true, ite_false, if_true, if_false, List.getElem?_cons_zero, List.getElem?_cons_succ, List.set_cons_zero, List.set_cons_succ, true_and, and_true, beq_self_eq_true, zite, Int.toNat_natCast, if_pos, if_neg, zwr_id, zand, l_cell, q1, q2, q3, q4, ne_eq, not_true]
    exact key
end
/-- THE LAW IN THE SMALL MACHINE -/
theorem law_wp (sc : Nat × (Int → Int)) (hL : sc.1 ≤ 260) (hsc : ∀ x, inR (sc.2 x)) : zwp sc 96 0 [some aS, none, none, none, none, none, none, none] [] (0, 0, fun _ => cA 0 (fun _ => 0)) (fun r h' => r = some (.inl 1) ∧ h'.1 ≤ 600000 ∧ h'.2.1 ≤ 7302250) := by
  show zwp sc 96 0 [some (.inr (.inr (.inr (.inr ())))), none, none, none, none, none, none, none] [] (0, 0, fun _ => cA 0 (fun _ => 0)) lwQ
  generalize hh : ((0, 0, fun _ => cA 0 (fun _ => 0)) : zH) = h
  have h1 : h.1 = 0 := by rw [← hh]
  have h2 : h.2.1 = 0 := by rw [← hh]
  obtain ⟨HA, HB, hA, a1, b1, hP⟩ := two_obj sc h h1 h2
  simp (disch := omega) only [e_96, w_96_0, w_96_1, w_96_2, w_96_3, getK, putK, ialK, iasK, aalK, aasK, alnK, zgt_u, zgt_a, Option.toList_some, Option.toList_none, List.cons_append, List.nil_append, List.map_cons, List.map_nil, List.replicate, ite_true, ite_false, if_true, if_false, List.getElem?_cons_zero, List.getElem?_cons_succ, List.set_cons_zero, List.set_cons_succ, true_and, and_true, beq_self_eq_true, zite, Int.toNat_natCast, if_pos, if_neg, zwr_id, zand, zrc_a h1, h1, a1]
  simp (disch := omega) only [e_96, w_96_4, w_96_5, w_96_6, w_96_7, w_96_8, w_96_9, getK, putK, ialK, iasK, aalK, aasK, alnK, zgt_u, zgt_a, Option.toList_some, Option.toList_none, List.cons_append, List.nil_append, List.map_cons, List.map_nil, List.replicate, ite_true, ite_false, if_true, if_false, List.getElem?_cons_zero, List.getElem?_cons_succ, List.set_cons_zero, List.set_cons_succ, true_and, and_true, beq_self_eq_true, zite, Int.toNat_natCast, if_pos, if_neg, zwr_id, zand, zrc_a hA, hA, b1]
  exact lp_law 28 0 HB z0S none none none none (by omega) okW_0 hP
