/-! THE MODEL'S CHANGES -/
section
variable {sc : Nat × (Int → Int)} {h : zH} {Q : Option zV → zH → Prop} {z : zS}
theorem s6_insert {v : Int} (hM : rM h z) (hz : okZ z) (hQ : ∀ h', rM h' (inS z v).2 → fr h h' 24 8 → Q (some (.inl (inS z v).1)) h') : zca sc 117 [.inr (.inl (some 24)), .inl v] h Q := by
  have hp := okZ_p hz
  obtain ⟨w, hO, hW⟩ := rM_mF hM
  obtain ⟨o1, o2, o3, o4, o5, -⟩ := id hz.1
  obtain ⟨m0, m1⟩ := id hO
  have l1 := hW.1
  have hw0 := l1.1
  have hIL : ∀ Q : Option zV → zH → Prop, zca sc 116 [.inr (.inl (some 24))] h Q = Q (some (.inl (zb (0 ≤ ixf z.p 0 z.S.1)))) h := fun Q => s6_isLive m0 m1 l1 o5 o4 o1
  unfold inS at hQ
  by_cases h1 : -99 ≤ v ∧ v ≤ 99
  · rw [if_pos h1] at hQ
    by_cases h2 : z.p = 0
    · rw [if_pos (Or.inl h2)] at hQ
      simp (disch := omega) only [e_117, w_117_0, w_117_1, w_117_2, w_117_3, w_117_4, w_117_5, w_117_6, w_117_7, w_117_8, w_117_9, w_117_10, w_117_11, w_117_12, w_117_13, w_117_14, w_117_15, w_117_16, w_117_17, w_117_18, w_117_19, w_117_20, w_117_21, w_117_22, w_117_23, w_117_24, w_117_25, w_117_26, w_117_27, w_117_28, getK, putK, ialK, iasK, aalK, aasK, alnK, zgt_u, zgt_a, Option.toList_some, Option.toList_none, List.cons_append, List.nil_append, List.map_cons, List.map_nil, List.replicate, ite_true, ite_false, if_true, if_false, List.getElem?_cons_zero, List.getElem?_cons_succ, List.set_cons_zero, List.set_cons_succ, true_and, and_true, beq_self_eq_true, zite, Int.toNat_natCast, if_pos, if_neg, zwr_id, zand, m0, s_isWeight6, zb_eq, zb_ne, h1, and_self, not_true]
      exact hQ h hM fr_rf
    · have hw : wd z.p := by rcases hz.2.2.2.2.2.1 with q | q; exact absurd q h2; exact q
      by_cases h3 : 0 ≤ ixf z.p 0 z.S.1
      · rw [if_pos (Or.inr h3)] at hQ
        simp (disch := omega) only [e_117, w_117_0, w_117_1, w_117_2, w_117_3, w_117_4, w_117_5, w_117_6, w_117_7, w_117_8, w_117_9, w_117_10, w_117_11, w_117_12, w_117_13, w_117_14, w_117_15, w_117_16, w_117_17, w_117_18, w_117_19, w_117_20, w_117_21, w_117_22, w_117_23, w_117_24, w_117_25, w_117_26, w_117_27, w_117_28, getK, putK, ialK, iasK, aalK, aasK, alnK, zgt_u, zgt_a, Option.toList_some, Option.toList_none, List.cons_append, List.nil_append, List.map_cons, List.map_nil, List.replicate, ite_true, ite_false, if_true, if_false, List.getElem?_cons_zero, List.getElem?_cons_succ, List.set_cons_zero, List.set_cons_succ, true_and, and_true, beq_self_eq_true, zite, Int.toNat_natCast, if_pos, if_neg, zwr_id, zand, m0, s_isWeight6, zb_eq, zb_ne, h1, and_self, not_true, mF_rc hO, hIL]
        exact hQ h hM fr_rf
      · rw [if_neg (by omega)] at hQ
        have hn : ∀ y ∈ z.S.1, y.2.1 ≠ z.p := by
          rcases ix_some o4 z.p with q | ⟨j, x, -, q, -⟩
          · exact q.2
          · omega
        by_cases h4 : 24 ≤ z.S.1.length
        · rw [if_pos h4] at hQ
          simp (disch := omega) only [e_117, w_117_0, w_117_1, w_117_2, w_117_3, w_117_4, w_117_5, w_117_6, w_117_7, w_117_8, w_117_9, w_117_10, w_117_11, w_117_12, w_117_13, w_117_14, w_117_15, w_117_16, w_117_17, w_117_18, w_117_19, w_117_20, w_117_21, w_117_22, w_117_23, w_117_24, w_117_25, w_117_26, w_117_27, w_117_28, getK, putK, ialK, iasK, aalK, aasK, alnK, zgt_u, zgt_a, Option.toList_some, Option.toList_none, List.cons_append, List.nil_append, List.map_cons, List.map_nil, List.replicate, ite_true, ite_false, if_true, if_false, List.getElem?_cons_zero, List.getElem?_cons_succ, List.set_cons_zero, List.set_cons_succ, true_and, and_true, beq_self_eq_true, zite, Int.toNat_natCast, if_pos, if_neg, zwr_id, zand, m0, m1, hw0, s_isWeight6, zb_eq, zb_ne, h1, and_self, not_true, mF_rc hO, hIL]
          exact hQ h hM fr_rf
        · rw [if_neg h4] at hQ
          simp (disch := omega) only [e_117, w_117_0, w_117_1, w_117_2, w_117_3, w_117_4, w_117_5, w_117_6, w_117_7, w_117_8, w_117_9, w_117_10, w_117_11, w_117_12, w_117_13, w_117_14, w_117_15, w_117_16, w_117_17, w_117_18, w_117_19, w_117_20, w_117_21, w_117_22, w_117_23, w_117_24, w_117_25, w_117_26, w_117_27, w_117_28, getK, putK, ialK, iasK, aalK, aasK, alnK, zgt_u, zgt_a, Option.toList_some, Option.toList_none, List.cons_append, List.nil_append, List.map_cons, List.map_nil, List.replicate, ite_true, ite_false, if_true, if_false, List.getElem?_cons_zero, List.getElem?_cons_succ, List.set_cons_zero, List.set_cons_succ, true_and, and_true, beq_self_eq_true, zite, Int.toNat_natCast, if_pos, if_neg, zwr_id, zand, m0, m1, hw0, s_isWeight6, zb_eq, zb_ne, h1, and_self, not_true, mF_rc hO, hIL]
          refine s6_remember hM hz (fun h1' a1 a2 => ?_)
          obtain ⟨w1, hO1, hW1⟩ := rM_mF a1
          have n0 := hO1.1
          simp (disch := omega) only [e_117, w_117_0, w_117_1, w_117_2, w_117_3, w_117_4, w_117_5, w_117_6, w_117_7, w_117_8, w_117_9, w_117_10, w_117_11, w_117_12, w_117_13, w_117_14, w_117_15, w_117_16, w_117_17, w_117_18, w_117_19, w_117_20, w_117_21, w_117_22, w_117_23, w_117_24, w_117_25, w_117_26, w_117_27, w_117_28, getK, putK, ialK, iasK, aalK, aasK, alnK, zgt_u, zgt_a, Option.toList_some, Option.toList_none, List.cons_append, List.nil_append, List.map_cons, List.map_nil, List.replicate, ite_true, ite_false, if_true, if_false, List.getElem?_cons_zero, List.getElem?_cons_succ, List.set_cons_zero, List.set_cons_succ, true_and, and_true, beq_self_eq_true, zite, Int.toNat_natCast, if_pos, if_neg, zwr_id, zand, n0, mF_rc hO1]
          refine s6_addWord hO1 hW1 hz.1 (by show z.S.1.length < 24; omega) hw h1 hn (fun h2' w2 b1 b2 b3 => ?_)
          simp (disch := omega) only [e_117, w_117_0, w_117_1, w_117_2, w_117_3, w_117_4, w_117_5, w_117_6, w_117_7, w_117_8, w_117_9, w_117_10, w_117_11, w_117_12, w_117_13, w_117_14, w_117_15, w_117_16, w_117_17, w_117_18, w_117_19, w_117_20, w_117_21, w_117_22, w_117_23, w_117_24, w_117_25, w_117_26, w_117_27, w_117_28, getK, putK, ialK, iasK, aalK, aasK, alnK, zgt_u, zgt_a, Option.toList_some, Option.toList_none, List.cons_append, List.nil_append, List.map_cons, List.map_nil, List.replicate, ite_true, ite_false, if_true, if_false, List.getElem?_cons_zero, List.getElem?_cons_succ, List.set_cons_zero, List.set_cons_succ, true_and, and_true, beq_self_eq_true, zite, Int.toNat_natCast, if_pos, if_neg, zwr_id, zand]
          exact hQ h2' (rM_w a1 b3 b1.2 b2) (fr_tr a2 (fr_wd b3 (by omega) (by omega)))
  · rw [if_neg h1] at hQ
    simp (disch := omega) only [e_117, w_117_0, w_117_1, w_117_2, w_117_3, w_117_4, w_117_5, w_117_6, w_117_7, w_117_8, w_117_9, w_117_10, w_117_11, w_117_12, w_117_13, w_117_14, w_117_15, w_117_16, w_117_17, w_117_18, w_117_19, w_117_20, w_117_21, w_117_22, w_117_23, w_117_24, w_117_25, w_117_26, w_117_27, w_117_28, getK, putK, ialK, iasK, aalK, aasK, alnK, zgt_u, zgt_a, Option.toList_some, Option.toList_none, List.cons_append, List.nil_append, List.map_cons, List.map_nil, List.replicate, ite_true, ite_false, if_true, if_false, List.getElem?_cons_zero, List.getElem?_cons_succ, List.set_cons_zero, List.set_cons_succ, true_and, and_true, beq_self_eq_true, zite, Int.toNat_natCast, if_pos, if_neg, zwr_id, zand, m0, s_isWeight6, zb_eq, zb_ne, h1, not_false_eq_true]
    exact hQ h hM fr_rf
theorem s6_remove (hM : rM h z) (hz : okZ z) (hQ : ∀ h', rM h' (rmS z).2 → fr h h' 24 8 → Q (some (.inl (rmS z).1)) h') : zca sc 118 [.inr (.inl (some 24))] h Q := by
  have hp := okZ_p hz
  obtain ⟨w, hO, hW⟩ := rM_mF hM
  obtain ⟨o1, o2, o3, o4, o5, -⟩ := id hz.1
  obtain ⟨m0, m1⟩ := id hO
  have l1 := hW.1
  have hIL : ∀ Q : Option zV → zH → Prop, zca sc 116 [.inr (.inl (some 24))] h Q = Q (some (.inl (zb (0 ≤ ixf z.p 0 z.S.1)))) h := fun Q => s6_isLive m0 m1 l1 o5 o4 o1
  unfold rmS dpS at hQ
  rcases ix_some o4 z.p with q | ⟨j, x, x1, x2, x3, x4, x5, x6⟩
  · have hneg : ¬ 0 ≤ ixf z.p 0 z.S.1 := by omega
    rw [if_pos (by omega)] at hQ
    simp (disch := omega) only [e_118, w_118_0, w_118_1, w_118_2, w_118_3, w_118_4, w_118_5, w_118_6, w_118_7, w_118_8, w_118_9, w_118_10, w_118_11, w_118_12, w_118_13, getK, putK, ialK, iasK, aalK, aasK, alnK, zgt_u, zgt_a, Option.toList_some, Option.toList_none, List.cons_append, List.nil_append, List.map_cons, List.map_nil, List.replicate, ite_true, ite_false, if_true, if_false, List.getElem?_cons_zero, List.getElem?_cons_succ, List.set_cons_zero, List.set_cons_succ, true_and, and_true, beq_self_eq_true, zite, Int.toNat_natCast, if_pos, if_neg, zwr_id, zand, mF_rc hO, hIL, zb_f hneg]
    exact hQ h hM fr_rf
  · have hpos : 0 ≤ ixf z.p 0 z.S.1 := by omega
    rw [if_neg (by omega), x2, x3, Int.toNat_natCast] at hQ
    simp (disch := omega) only [e_118, w_118_0, w_118_1, w_118_2, w_118_3, w_118_4, w_118_5, w_118_6, w_118_7, w_118_8, w_118_9, w_118_10, w_118_11, w_118_12, w_118_13, getK, putK, ialK, iasK, aalK, aasK, alnK, zgt_u, zgt_a, Option.toList_some, Option.toList_none, List.cons_append, List.nil_append, List.map_cons, List.map_nil, List.replicate, ite_true, ite_false, if_true, if_false, List.getElem?_cons_zero, List.getElem?_cons_succ, List.set_cons_zero, List.set_cons_succ, true_and, and_true, beq_self_eq_true, zite, Int.toNat_natCast, if_pos, if_neg, zwr_id, zand, mF_rc hO, hIL, zb_t hpos]
    refine s6_remember hM hz (fun h1' a1 a2 => ?_)
    obtain ⟨w1, hO1, hW1⟩ := rM_mF a1
    have n0 := hO1.1
    have hLA : ∀ Q : Option zV → zH → Prop, zca sc 102 [.inr (.inl (some 24)), .inl z.p] h1' Q = Q (some (.inl (j : Int))) h1' := fun Q => by
      rw [s6_liveAt (L := z.S.1) hO1.1 hO1.2 hW1.1 o5 o4, if_neg (by omega), x2]
    simp (disch := omega) only [e_118, w_118_0, w_118_1, w_118_2, w_118_3, w_118_4, w_118_5, w_118_6, w_118_7, w_118_8, w_118_9, w_118_10, w_118_11, w_118_12, w_118_13, getK, putK, ialK, iasK, aalK, aasK, alnK, zgt_u, zgt_a, Option.toList_some, Option.toList_none, List.cons_append, List.nil_append, List.map_cons, List.map_nil, List.replicate, ite_true, ite_false, if_true, if_false, List.getElem?_cons_zero, List.getElem?_cons_succ, List.set_cons_zero, List.set_cons_succ, true_and, and_true, beq_self_eq_true, zite, Int.toNat_natCast, if_pos, if_neg, zwr_id, zand, n0, mF_rc hO1, hLA]
    refine s6_dropWord hO1 hW1 hz.1 x1 (fun h2' w2 b1 b2 b3 => ?_)
    simp (disch := omega) only [e_118, w_118_0, w_118_1, w_118_2, w_118_3, w_118_4, w_118_5, w_118_6, w_118_7, w_118_8, w_118_9, w_118_10, w_118_11, w_118_12, w_118_13, getK, putK, ialK, iasK, aalK, aasK, alnK, zgt_u, zgt_a, Option.toList_some, Option.toList_none, List.cons_append, List.nil_append, List.map_cons, List.map_nil, List.replicate, ite_true, ite_false, if_true, if_false, List.getElem?_cons_zero, List.getElem?_cons_succ, List.set_cons_zero, List.set_cons_succ, true_and, and_true, beq_self_eq_true, zite, Int.toNat_natCast, if_pos, if_neg, zwr_id, zand]
    exact hQ h2' (rM_w a1 b3 b1.2 b2) (fr_tr a2 (fr_wd b3 (by omega) (by omega)))
theorem s6_weigh {v : Int} (hM : rM h z) (hz : okZ z) (hQ : ∀ h', rM h' (weS z v).2 → fr h h' 24 8 → Q (some (.inl (weS z v).1)) h') : zca sc 119 [.inr (.inl (some 24)), .inl v] h Q := by
  have hp := okZ_p hz
  obtain ⟨w, hO, hW⟩ := rM_mF hM
  obtain ⟨o1, o2, o3, o4, o5, -⟩ := id hz.1
  obtain ⟨m0, m1⟩ := id hO
  have l1 := hW.1
  have hIL : ∀ Q : Option zV → zH → Prop, zca sc 116 [.inr (.inl (some 24))] h Q = Q (some (.inl (zb (0 ≤ ixf z.p 0 z.S.1)))) h := fun Q => s6_isLive m0 m1 l1 o5 o4 o1
  unfold weS dpS at hQ
  by_cases h1 : -99 ≤ v ∧ v ≤ 99
  · rw [if_pos h1] at hQ
    rcases ix_some o4 z.p with q | ⟨j, x, x1, x2, x3, x4, x5, x6⟩
    · have hneg : ¬ 0 ≤ ixf z.p 0 z.S.1 := by omega
      rw [if_pos (by omega)] at hQ
      simp (disch := omega) only [e_119, w_119_0, w_119_1, w_119_2, w_119_3, w_119_4, w_119_5, w_119_6, w_119_7, w_119_8, w_119_9, w_119_10, w_119_11, w_119_12, w_119_13, w_119_14, w_119_15, w_119_16, w_119_17, w_119_18, w_119_19, w_119_20, w_119_21, w_119_22, w_119_23, w_119_24, w_119_25, w_119_26, w_119_27, w_119_28, w_119_29, w_119_30, w_119_31, w_119_32, w_119_33, w_119_34, w_119_35, w_119_36, w_119_37, getK, putK, ialK, iasK, aalK, aasK, alnK, zgt_u, zgt_a, Option.toList_some, Option.toList_none, List.cons_append, List.nil_append, List.map_cons, List.map_nil, List.replicate, ite_true, ite_false, if_true, if_false, List.getElem?_cons_zero, List.getElem?_cons_succ, List.set_cons_zero, List.set_cons_succ, true_and, and_true, beq_self_eq_true, zite, Int.toNat_natCast, if_pos, if_neg, zwr_id, zand, s_isWeight6, zb_eq, zb_ne, h1, and_self, not_true, mF_rc hO, hIL, hneg, not_false_eq_true]
      exact hQ h hM fr_rf
    · have hpos : 0 ≤ ixf z.p 0 z.S.1 := by omega
      rw [if_neg (by omega), x2, x3, Int.toNat_natCast] at hQ
      have hw : wd z.p := by rw [← x4]; exact (o1 x x5).2.2.1
      have hxw := (o1 x x5).2.2.2
      have hlen := len_eraseIdx x6
      simp (disch := omega) only [e_119, w_119_0, w_119_1, w_119_2, w_119_3, w_119_4, w_119_5, w_119_6, w_119_7, w_119_8, w_119_9, w_119_10, w_119_11, w_119_12, w_119_13, w_119_14, w_119_15, w_119_16, w_119_17, w_119_18, w_119_19, w_119_20, w_119_21, w_119_22, w_119_23, w_119_24, w_119_25, w_119_26, w_119_27, w_119_28, w_119_29, w_119_30, w_119_31, w_119_32, w_119_33, w_119_34, w_119_35, w_119_36, w_119_37, getK, putK, ialK, iasK, aalK, aasK, alnK, zgt_u, zgt_a, Option.toList_some, Option.toList_none, List.cons_append, List.nil_append, List.map_cons, List.map_nil, List.replicate, ite_true, ite_false, if_true, if_false, List.getElem?_cons_zero, List.getElem?_cons_succ, List.set_cons_zero, List.set_cons_succ, true_and, and_true, beq_self_eq_true, zite, Int.toNat_natCast, if_pos, if_neg, zwr_id, zand, s_isWeight6, zb_eq, zb_ne, h1, and_self, not_true, mF_rc hO, hIL, hpos]
      refine s6_remember hM hz (fun h1' a1 a2 => ?_)
      obtain ⟨w1, hO1, hW1⟩ := rM_mF a1
      obtain ⟨n0, n1⟩ := id hO1
      have hLA : ∀ Q : Option zV → zH → Prop, zca sc 102 [.inr (.inl (some 24)), .inl z.p] h1' Q = Q (some (.inl (j : Int))) h1' := fun Q => by
        rw [s6_liveAt (L := z.S.1) hO1.1 hO1.2 hW1.1 o5 o4, if_neg (by omega), x2]
      have hwt : w1 (25 + (j : Int)) = x.2.2 := by
        have := (hW1.1.2 j (by omega) (by show (j : Int) < z.S.1.length; omega)).2
        rw [this]
        show (gI z.S.1 j).2.2 = _
        rw [x3]
      simp (disch := omega) only [e_119, w_119_0, w_119_1, w_119_2, w_119_3, w_119_4, w_119_5, w_119_6, w_119_7, w_119_8, w_119_9, w_119_10, w_119_11, w_119_12, w_119_13, w_119_14, w_119_15, w_119_16, w_119_17, w_119_18, w_119_19, w_119_20, w_119_21, w_119_22, w_119_23, w_119_24, w_119_25, w_119_26, w_119_27, w_119_28, w_119_29, w_119_30, w_119_31, w_119_32, w_119_33, w_119_34, w_119_35, w_119_36, w_119_37, getK, putK, ialK, iasK, aalK, aasK, alnK, zgt_u, zgt_a, Option.toList_some, Option.toList_none, List.cons_append, List.nil_append, List.map_cons, List.map_nil, List.replicate, ite_true, ite_false, if_true, if_false, List.getElem?_cons_zero, List.getElem?_cons_succ, List.set_cons_zero, List.set_cons_succ, true_and, and_true, beq_self_eq_true, zite, Int.toNat_natCast, if_pos, if_neg, zwr_id, zand, n0, n1, mF_rc hO1, hLA, hwt]
      refine s6_dropWord hO1 hW1 hz.1 x1 (fun h2' w2 b1 b2 b3 => ?_)
      have n2 := b1.1
      simp (disch := omega) only [e_119, w_119_0, w_119_1, w_119_2, w_119_3, w_119_4, w_119_5, w_119_6, w_119_7, w_119_8, w_119_9, w_119_10, w_119_11, w_119_12, w_119_13, w_119_14, w_119_15, w_119_16, w_119_17, w_119_18, w_119_19, w_119_20, w_119_21, w_119_22, w_119_23, w_119_24, w_119_25, w_119_26, w_119_27, w_119_28, w_119_29, w_119_30, w_119_31, w_119_32, w_119_33, w_119_34, w_119_35, w_119_36, w_119_37, getK, putK, ialK, iasK, aalK, aasK, alnK, zgt_u, zgt_a, Option.toList_some, Option.toList_none, List.cons_append, List.nil_append, List.map_cons, List.map_nil, List.replicate, ite_true, ite_false, if_true, if_false, List.getElem?_cons_zero, List.getElem?_cons_succ, List.set_cons_zero, List.set_cons_succ, true_and, and_true, beq_self_eq_true, zite, Int.toNat_natCast, if_pos, if_neg, zwr_id, zand, n2, mF_rc b1]
      refine s6_addWord b1 b2 (droS_ok hz.1 x1) (by rw [droS_1]; show (z.S.1.eraseIdx j).length < 24; omega) hw h1 (fun y hy => ?_) (fun h3' w3 f1 f2 f3 => ?_)
      · rw [droS_1] at hy
        rw [← x4]
        exact ers_ne o4 x1 y hy
      · simp (disch := omega) only [e_119, w_119_0, w_119_1, w_119_2, w_119_3, w_119_4, w_119_5, w_119_6, w_119_7, w_119_8, w_119_9, w_119_10, w_119_11, w_119_12, w_119_13, w_119_14, w_119_15, w_119_16, w_119_17, w_119_18, w_119_19, w_119_20, w_119_21, w_119_22, w_119_23, w_119_24, w_119_25, w_119_26, w_119_27, w_119_28, w_119_29, w_119_30, w_119_31, w_119_32, w_119_33, w_119_34, w_119_35, w_119_36, w_119_37, getK, putK, ialK, iasK, aalK, aasK, alnK, zgt_u, zgt_a, Option.toList_some, Option.toList_none, List.cons_append, List.nil_append, List.map_cons, List.map_nil, List.replicate, ite_true, ite_false, if_true, if_false, List.getElem?_cons_zero, List.getElem?_cons_succ, List.set_cons_zero, List.set_cons_succ, true_and, and_true, beq_self_eq_true, zite, Int.toNat_natCast, if_pos, if_neg, zwr_id, zand]
        exact hQ h3' (rM_w a1 (fr_tr b3 f3) f1.2 f2) (fr_tr a2 (fr_tr (fr_wd b3 (by omega) (by omega)) (fr_wd f3 (by omega) (by omega))))
  · rw [if_neg h1] at hQ
    simp (disch := omega) only [e_119, w_119_0, w_119_1, w_119_2, w_119_3, w_119_4, w_119_5, w_119_6, w_119_7, w_119_8, w_119_9, w_119_10, w_119_11, w_119_12, w_119_13, w_119_14, w_119_15, w_119_16, w_119_17, w_119_18, w_119_19, w_119_20, w_119_21, w_119_22, w_119_23, w_119_24, w_119_25, w_119_26, w_119_27, w_119_28, w_119_29, w_119_30, w_119_31, w_119_32, w_119_33, w_119_34, w_119_35, w_119_36, w_119_37, getK, putK, ialK, iasK, aalK, aasK, alnK, zgt_u, zgt_a, Option.toList_some, Option.toList_none, List.cons_append, List.nil_append, List.map_cons, List.map_nil, List.replicate, ite_true, ite_false, if_true, if_false, List.getElem?_cons_zero, List.getElem?_cons_succ, List.set_cons_zero, List.set_cons_succ, true_and, and_true, beq_self_eq_true, zite, Int.toNat_natCast, if_pos, if_neg, zwr_id, zand, s_isWeight6, zb_eq, zb_ne, h1, not_false_eq_true]
    exact hQ h hM fr_rf
theorem zwr_back {a b : Int} (ha : inR a) (hb : inR b) : zwr (zwr (a + b) - a) = b := by unfold zwr inR at *; omega
theorem s6_rebuild (hM : rM h z) (hz : okZ z) (hQ : ∀ h', rM h' (rbS z).2 → fr h h' 24 8 → Q (some (.inl (rbS z).1)) h') : zca sc 120 [.inr (.inl (some 24))] h Q := by
  have m0 := hM.1
  obtain ⟨o1, o2, o3, o4, o5, o6, o7, o8, o9, o10, o11⟩ := id hz.1
  have hb := lti_b (lgf z.S.1.length) (okIs_map (lgf_b (n := z.S.1.length)) o1)
  rw [List.length_map] at hb
  have hbR : inR (lti (lgf z.S.1.length) (z.S.1.map (fun x => (lgf z.S.1.length, x.2)))) := by unfold inR; omega
  simp (disch := omega) only [e_120, w_120_0, w_120_1, w_120_2, w_120_3, w_120_4, w_120_5, w_120_6, w_120_7, w_120_8, w_120_9, w_120_10, w_120_11, w_120_12, w_120_13, w_120_14, w_120_15, w_120_16, getK, putK, ialK, iasK, aalK, aasK, alnK, zgt_u, zgt_a, Option.toList_some, Option.toList_none, List.cons_append, List.nil_append, List.map_cons, List.map_nil, List.replicate, ite_true, ite_false, if_true, if_false, List.getElem?_cons_zero, List.getElem?_cons_succ, List.set_cons_zero, List.set_cons_succ, true_and, and_true, beq_self_eq_true, zite, Int.toNat_natCast, if_pos, if_neg, zwr_id, zand, zrc m0]
  refine s6_remember hM hz (fun h1 a1 a2 => ?_)
  obtain ⟨w1, hO1, hW1⟩ := rM_mF a1
  obtain ⟨n0, n1⟩ := id hO1
  obtain ⟨l1, l2, l3, l4, l5⟩ := id hW1
  simp (disch := omega) only [e_120, w_120_0, w_120_1, w_120_2, w_120_3, w_120_4, w_120_5, w_120_6, w_120_7, w_120_8, w_120_9, w_120_10, w_120_11, w_120_12, w_120_13, w_120_14, w_120_15, w_120_16, getK, putK, ialK, iasK, aalK, aasK, alnK, zgt_u, zgt_a, Option.toList_some, Option.toList_none, List.cons_append, List.nil_append, List.map_cons, List.map_nil, List.replicate, ite_true, ite_false, if_true, if_false, List.getElem?_cons_zero, List.getElem?_cons_succ, List.set_cons_zero, List.set_cons_succ, true_and, and_true, beq_self_eq_true, zite, Int.toNat_natCast, if_pos, if_neg, zwr_id, zand, n0, n1, l4, mF_rc hO1]
  refine s6_build hO1 l1 o5 o1 (by rw [l4]; exact o10) (fun h2 w2 t1 t2 t3 t4 t5 t6 t7 => ?_)
  obtain ⟨q0, q1⟩ := id t1
  have e : zwr (w2 435 - z.S.2.2.2.1) = lti (lgf z.S.1.length) (z.S.1.map (fun x => (lgf z.S.1.length, x.2))) := by
    rw [t5, l4]
    exact zwr_back o10 hbR
  rw [l4] at t5
  rw [l5] at t6
  simp (disch := omega) only [e_120, w_120_0, w_120_1, w_120_2, w_120_3, w_120_4, w_120_5, w_120_6, w_120_7, w_120_8, w_120_9, w_120_10, w_120_11, w_120_12, w_120_13, w_120_14, w_120_15, w_120_16, getK, putK, ialK, iasK, aalK, aasK, alnK, zgt_u, zgt_a, Option.toList_some, Option.toList_none, List.cons_append, List.nil_append, List.map_cons, List.map_nil, List.replicate, ite_true, ite_false, if_true, if_false, List.getElem?_cons_zero, List.getElem?_cons_succ, List.set_cons_zero, List.set_cons_succ, true_and, and_true, beq_self_eq_true, zite, Int.toNat_natCast, if_pos, if_neg, zwr_id, zand, q0, q1]
  have := hQ h2 (rM_w a1 t7 t1.2 ⟨t2, t3, t4, t5, t6⟩) (fr_tr a2 (fr_wd t7 (by omega) (by omega)))
  have e2 : (rbS z).1 = zwr (w2 435 - z.S.2.2.2.1) := e.symm
  rw [e2] at this
  exact this
end
