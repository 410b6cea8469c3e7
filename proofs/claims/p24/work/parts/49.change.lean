/-! ONE CHANGE, AS THE LAW MAKES IT: the answer and the new state speak of the state alone -/
section
variable {sc : Nat × (Int → Int)}
theorem det_of {m : Nat} {as : List zV} {H : zH} {a : Int} {P : zH → Prop} (hw : zca sc m as H (fun r h => r = some (.inl a) ∧ P h)) : ∃ H', P H' ∧ ∀ Q, zca sc m as H Q = Q (some (.inl a)) H' := by
  obtain ⟨n, r, h', e1, rfl, e3⟩ := hw
  exact ⟨h', e3, fun Q => zca_det ⟨n, _, h', e1, rfl, rfl⟩⟩
theorem l_change (sc : Nat × (Int → Int)) (z : zS) (v more : Int) (hz : okW z) : ∃ (a : Int) (z' : zS), okW z' ∧ ∀ (b1 b2 : Nat) (H : zH) (z2 : zS) (c c2 : Nat), PP b1 b2 H z z2 c c2 → ∃ H', PP b1 b2 H' z' z2 (c + 3) c2 ∧ ∀ Q, zca sc 90 [.inr (.inl (some b1)), .inl v, .inl more] H Q = Q (some (.inl a)) H' := by
  have hb := lowF_b (x := v) (n := 14) (by omega)
  have m199 := lowF_b (x := more) (n := 199) (by omega)
  generalize hv : (Int32.ofInt v >>> (Int32.ofInt 4 &&& 31)).toInt = v4
  have hy := okW_sp (x := spC v4) hz
  by_cases t5 : lowF v 14 ≤ 5
  · refine ⟨(inS (spS z (spC v4)).2 (lowF more 199 - 99)).1, _, okW_in (w := lowF more 199 - 99) hy, fun b1 b2 H z2 c c2 hP => ?_⟩
    obtain ⟨H1, a1, a2⟩ := l_spell (sc := sc) (v := v4) hP
    obtain ⟨H2, d1, d2⟩ := p_insert (sc := sc) (w := lowF more 199 - 99) a1 hy.1
    refine det_of ?_
    rcases (show lowF v 14 = 0 ∨ lowF v 14 = 1 ∨ lowF v 14 = 2 ∨ lowF v 14 = 3 ∨ lowF v 14 = 4 ∨ lowF v 14 = 5 by omega) with ht | ht | ht | ht | ht | ht
    all_goals
      simp (disch := omega) only [e_90, w_90_0, w_90_1, w_90_2, w_90_3, w_90_4, w_90_5, w_90_6, w_90_7, w_90_8, w_90_9, w_90_10, w_90_11, w_90_12, w_90_13, w_90_14, w_90_15, w_90_16, w_90_17, getK, putK, ialK, iasK, aalK, aasK, alnK, zgt_u, zgt_a, Option.toList_some, Option.toList_none, List.cons_append, List.nil_append, List.map_cons, List.map_nil, List.replicate, ite_true, ite_false, if_true, if_false, List.getElem?_cons_zero, List.getElem?_cons_succ, List.set_cons_zero, List.set_cons_succ, true_and, and_true, beq_self_eq_true, zite, Int.toNat_natCast, if_pos, if_neg, zwr_id, zand, hv, l_low, a2, p_rc a1, d2]
      first | exact ⟨rfl, PP_c d1⟩ | exact PP_c d1
  by_cases t8 : lowF v 14 ≤ 8
  · have e0 : toS (spS z (spC v4)).2 0 = ((spS z (spC v4)).2.S.1.length : Int) := rfl
    generalize hn : ((spS z (spC v4)).2.S.1.length : Int) = n at e0
    by_cases h0 : n = 0
    · refine ⟨(rmS (spS z (spC v4)).2).1, _, okW_rm hy, fun b1 b2 H z2 c c2 hP => ?_⟩
      obtain ⟨H1, a1, a2⟩ := l_spell (sc := sc) (v := v4) hP
      obtain ⟨H2, d1, d2⟩ := p_remove (sc := sc) a1 hy.1
      refine det_of ?_
      rcases (show lowF v 14 = 6 ∨ lowF v 14 = 7 ∨ lowF v 14 = 8 by omega) with ht | ht | ht
      all_goals
        simp (disch := omega) only [e_90, w_90_0, w_90_1, w_90_2, w_90_3, w_90_4, w_90_5, w_90_6, w_90_7, w_90_8, w_90_9, w_90_10, w_90_11, w_90_12, w_90_13, w_90_14, w_90_15, w_90_16, w_90_17, w_90_18, w_90_19, w_90_20, w_90_21, w_90_22, w_90_23, w_90_24, w_90_25, w_90_26, w_90_27, w_90_28, w_90_29, w_90_30, w_90_31, w_90_32, w_90_33, w_90_34, w_90_35, w_90_36, w_90_37, getK, putK, ialK, iasK, aalK, aasK, alnK, zgt_u, zgt_a, Option.toList_some, Option.toList_none, List.cons_append, List.nil_append, List.map_cons, List.map_nil, List.replicate, ite_true, ite_false, if_true, if_false, List.getElem?_cons_zero, List.getElem?_cons_succ, List.set_cons_zero, List.set_cons_succ, true_and, and_true, beq_self_eq_true, zite, Int.toNat_natCast, if_pos, if_neg, zwr_id, zand, hv, l_low, a2, p_rc a1, p_told a1 hy.1, e0, d2]
        first | exact ⟨rfl, PP_c d1⟩ | exact PP_c d1
    · have hn0 : 0 < n := by omega
      refine ⟨(rmS (spS (spS z (spC v4)).2 (woS (spS z (spC v4)).2 (lowF more n) 0)).2).1, _, okW_rm (okW_sp (x := woS (spS z (spC v4)).2 (lowF more n) 0) hy), fun b1 b2 H z2 c c2 hP => ?_⟩
      obtain ⟨H1, a1, a2⟩ := l_spell (sc := sc) (v := v4) hP
      obtain ⟨H2, d1, d2⟩ := p_spell (sc := sc) (x := woS (spS z (spC v4)).2 (lowF more n) 0) a1
      obtain ⟨H3, g1, g2⟩ := p_remove (sc := sc) d1 (okW_sp hy).1
      refine det_of ?_
      rcases (show lowF v 14 = 6 ∨ lowF v 14 = 7 ∨ lowF v 14 = 8 by omega) with ht | ht | ht
      all_goals
        simp (disch := omega) only [e_90, w_90_0, w_90_1, w_90_2, w_90_3, w_90_4, w_90_5, w_90_6, w_90_7, w_90_8, w_90_9, w_90_10, w_90_11, w_90_12, w_90_13, w_90_14, w_90_15, w_90_16, w_90_17, w_90_18, w_90_19, w_90_20, w_90_21, w_90_22, w_90_23, w_90_24, w_90_25, w_90_26, w_90_27, w_90_28, w_90_29, w_90_30, w_90_31, w_90_32, w_90_33, w_90_34, w_90_35, w_90_36, w_90_37, getK, putK, ialK, iasK, aalK, aasK, alnK, zgt_u, zgt_a, Option.toList_some, Option.toList_none, List.cons_append, List.nil_append, List.map_cons, List.map_nil, List.replicate, ite_true, ite_false, if_true, if_false, List.getElem?_cons_zero, List.getElem?_cons_succ, List.set_cons_zero, List.set_cons_succ, true_and, and_true, beq_self_eq_true, zite, Int.toNat_natCast, if_pos, if_neg, zwr_id, zand, hv, l_low, a2, p_rc a1, p_told a1 hy.1, e0, p_word a1 hy.1, d2, p_rc d1, g2]
        first | exact ⟨rfl, g1⟩ | exact g1
  by_cases t9 : lowF v 14 = 9
  · refine ⟨(weS (spS z (spC v4)).2 (lowF more 199 - 99)).1, _, okW_we (w := lowF more 199 - 99) hy, fun b1 b2 H z2 c c2 hP => ?_⟩
    obtain ⟨H1, a1, a2⟩ := l_spell (sc := sc) (v := v4) hP
    obtain ⟨H2, d1, d2⟩ := p_weigh (sc := sc) (w := lowF more 199 - 99) a1 hy.1
    refine det_of ?_
    simp (disch := omega) only [e_90, w_90_0, w_90_1, w_90_2, w_90_3, w_90_4, w_90_5, w_90_6, w_90_7, w_90_8, w_90_9, w_90_10, w_90_11, w_90_12, w_90_13, w_90_14, w_90_15, w_90_16, w_90_17, w_90_18, w_90_19, w_90_20, w_90_21, w_90_22, w_90_23, w_90_24, w_90_25, w_90_26, w_90_27, w_90_28, w_90_29, w_90_30, w_90_31, w_90_32, w_90_33, w_90_34, w_90_35, w_90_36, w_90_37, w_90_38, w_90_39, w_90_40, w_90_41, w_90_42, w_90_43, w_90_44, w_90_45, getK, putK, ialK, iasK, aalK, aasK, alnK, zgt_u, zgt_a, Option.toList_some, Option.toList_none, List.cons_append, List.nil_append, List.map_cons, List.map_nil, List.replicate, ite_true, ite_false, if_true, if_false, List.getElem?_cons_zero, List.getElem?_cons_succ, List.set_cons_zero, List.set_cons_succ, true_and, and_true, beq_self_eq_true, zite, Int.toNat_natCast, if_pos, if_neg, zwr_id, zand, hv, l_low, a2, p_rc a1, d2]
    first | exact ⟨rfl, PP_c d1⟩ | exact PP_c d1
  by_cases t10 : lowF v 14 = 10
  · by_cases h4 : lowF more 4 = 0
    · refine ⟨(rbS (spS z (spC v4)).2).1, _, okW_rb hy, fun b1 b2 H z2 c c2 hP => ?_⟩
      obtain ⟨H1, a1, a2⟩ := l_spell (sc := sc) (v := v4) hP
      obtain ⟨H2, d1, d2⟩ := p_rebuild (sc := sc) a1 hy.1
      refine det_of ?_
      simp (disch := omega) only [e_90, w_90_0, w_90_1, w_90_2, w_90_3, w_90_4, w_90_5, w_90_6, w_90_7, w_90_8, w_90_9, w_90_10, w_90_11, w_90_12, w_90_13, w_90_14, w_90_15, w_90_16, w_90_17, w_90_18, w_90_19, w_90_20, w_90_21, w_90_22, w_90_23, w_90_24, w_90_25, w_90_26, w_90_27, w_90_28, w_90_29, w_90_30, w_90_31, w_90_32, w_90_33, w_90_34, w_90_35, w_90_36, w_90_37, w_90_38, w_90_39, w_90_40, w_90_41, w_90_42, w_90_43, w_90_44, w_90_45, w_90_46, w_90_47, w_90_48, w_90_49, w_90_50, w_90_51, w_90_52, w_90_53, w_90_54, w_90_55, getK, putK, ialK, iasK, aalK, aasK, alnK, zgt_u, zgt_a, Option.toList_some, Option.toList_none, List.cons_append, List.nil_append, List.map_cons, List.map_nil, List.replicate, ite_true, ite_false, if_true, if_false, List.getElem?_cons_zero, List.getElem?_cons_succ, List.set_cons_zero, List.set_cons_succ, true_and, and_true, beq_self_eq_true, zite, Int.toNat_natCast, if_pos, if_neg, zwr_id, zand, hv, l_low, a2, p_rc a1, d2]
      first | exact ⟨rfl, PP_c d1⟩ | exact PP_c d1
    · refine ⟨(unS (spS z (spC v4)).2).1, _, okW_un hy, fun b1 b2 H z2 c c2 hP => ?_⟩
      obtain ⟨H1, a1, a2⟩ := l_spell (sc := sc) (v := v4) hP
      obtain ⟨H2, d1, d2⟩ := p_undo (sc := sc) a1 hy.1
      refine det_of ?_
      simp (disch := omega) only [e_90, w_90_0, w_90_1, w_90_2, w_90_3, w_90_4, w_90_5, w_90_6, w_90_7, w_90_8, w_90_9, w_90_10, w_90_11, w_90_12, w_90_13, w_90_14, w_90_15, w_90_16, w_90_17, w_90_18, w_90_19, w_90_20, w_90_21, w_90_22, w_90_23, w_90_24, w_90_25, w_90_26, w_90_27, w_90_28, w_90_29, w_90_30, w_90_31, w_90_32, w_90_33, w_90_34, w_90_35, w_90_36, w_90_37, w_90_38, w_90_39, w_90_40, w_90_41, w_90_42, w_90_43, w_90_44, w_90_45, w_90_46, w_90_47, w_90_48, w_90_49, w_90_50, w_90_51, w_90_52, w_90_53, w_90_54, w_90_55, getK, putK, ialK, iasK, aalK, aasK, alnK, zgt_u, zgt_a, Option.toList_some, Option.toList_none, List.cons_append, List.nil_append, List.map_cons, List.map_nil, List.replicate, ite_true, ite_false, if_true, if_false, List.getElem?_cons_zero, List.getElem?_cons_succ, List.set_cons_zero, List.set_cons_succ, true_and, and_true, beq_self_eq_true, zite, Int.toNat_natCast, if_pos, if_neg, zwr_id, zand, hv, l_low, a2, p_rc a1, d2]
      first | exact ⟨rfl, PP_c d1⟩ | exact PP_c d1
  by_cases t11 : lowF v 14 = 11
  · by_cases h4 : lowF more 2 = 0
    · refine ⟨(keS (spS z (spC v4)).2 (lowF (Int32.ofInt more >>> (Int32.ofInt 1 &&& 31)).toInt 2)).1, _, okW_ke (i := lowF (Int32.ofInt more >>> (Int32.ofInt 1 &&& 31)).toInt 2) hy, fun b1 b2 H z2 c c2 hP => ?_⟩
      obtain ⟨H1, a1, a2⟩ := l_spell (sc := sc) (v := v4) hP
      obtain ⟨H2, d1, d2⟩ := p_keep (sc := sc) (i := lowF (Int32.ofInt more >>> (Int32.ofInt 1 &&& 31)).toInt 2) a1 hy.1
      refine det_of ?_
      simp (disch := omega) only [e_90, w_90_0, w_90_1, w_90_2, w_90_3, w_90_4, w_90_5, w_90_6, w_90_7, w_90_8, w_90_9, w_90_10, w_90_11, w_90_12, w_90_13, w_90_14, w_90_15, w_90_16, w_90_17, w_90_18, w_90_19, w_90_20, w_90_21, w_90_22, w_90_23, w_90_24, w_90_25, w_90_26, w_90_27, w_90_28, w_90_29, w_90_30, w_90_31, w_90_32, w_90_33, w_90_34, w_90_35, w_90_36, w_90_37, w_90_38, w_90_39, w_90_40, w_90_41, w_90_42, w_90_43, w_90_44, w_90_45, w_90_46, w_90_47, w_90_48, w_90_49, w_90_50, w_90_51, w_90_52, w_90_53, w_90_54, w_90_55, w_90_56, w_90_57, w_90_58, w_90_59, w_90_60, w_90_61, w_90_62, w_90_63, w_90_64, w_90_65, w_90_66, w_90_67, w_90_68, w_90_69, w_90_70, w_90_71, w_90_72, w_90_73, w_90_74, w_90_75, getK, putK, ialK, iasK, aalK, aasK, alnK, zgt_u, zgt_a, Option.toList_some, Option.toList_none, List.cons_append, List.nil_append, List.map_cons, List.map_nil, List.replicate, ite_true, ite_false, if_true, if_false, List.getElem?_cons_zero, List.getElem?_cons_succ, List.set_cons_zero, List.set_cons_succ, true_and, and_true, beq_self_eq_true, zite, Int.toNat_natCast, if_pos, if_neg, zwr_id, zand, hv, l_low, a2, p_rc a1, d2]
      first | exact ⟨rfl, PP_c d1⟩ | exact PP_c d1
    · refine ⟨(baS (spS z (spC v4)).2 (lowF (Int32.ofInt more >>> (Int32.ofInt 1 &&& 31)).toInt 2)).1, _, okW_ba (i := lowF (Int32.ofInt more >>> (Int32.ofInt 1 &&& 31)).toInt 2) hy, fun b1 b2 H z2 c c2 hP => ?_⟩
      obtain ⟨H1, a1, a2⟩ := l_spell (sc := sc) (v := v4) hP
      obtain ⟨H2, d1, d2⟩ := p_back (sc := sc) (i := lowF (Int32.ofInt more >>> (Int32.ofInt 1 &&& 31)).toInt 2) a1 hy.1
      refine det_of ?_
      simp (disch := omega) only [e_90, w_90_0, w_90_1, w_90_2, w_90_3, w_90_4, w_90_5, w_90_6, w_90_7, w_90_8, w_90_9, w_90_10, w_90_11, w_90_12, w_90_13, w_90_14, w_90_15, w_90_16, w_90_17, w_90_18, w_90_19, w_90_20, w_90_21, w_90_22, w_90_23, w_90_24, w_90_25, w_90_26, w_90_27, w_90_28, w_90_29, w_90_30, w_90_31, w_90_32, w_90_33, w_90_34, w_90_35, w_90_36, w_90_37, w_90_38, w_90_39, w_90_40, w_90_41, w_90_42, w_90_43, w_90_44, w_90_45, w_90_46, w_90_47, w_90_48, w_90_49, w_90_50, w_90_51, w_90_52, w_90_53, w_90_54, w_90_55, w_90_56, w_90_57, w_90_58, w_90_59, w_90_60, w_90_61, w_90_62, w_90_63, w_90_64, w_90_65, w_90_66, w_90_67, w_90_68, w_90_69, w_90_70, w_90_71, w_90_72, w_90_73, w_90_74, w_90_75, getK, putK, ialK, iasK, aalK, aasK, alnK, zgt_u, zgt_a, Option.toList_some, Option.toList_none, List.cons_append, List.nil_append, List.map_cons, List.map_nil, List.replicate, ite_true, ite_false, if_true, if_false, List.getElem?_cons_zero, List.getElem?_cons_succ, List.set_cons_zero, List.set_cons_succ, true_and, and_true, beq_self_eq_true, zite, Int.toNat_natCast, if_pos, if_neg, zwr_id, zand, hv, l_low, a2, p_rc a1, d2]
      first | exact ⟨rfl, PP_c d1⟩ | exact PP_c d1
  by_cases t12 : lowF v 14 = 12
  · by_cases h4 : lowF more 9 = 0
    · refine ⟨(clS (spS z (spC v4)).2).1, _, okW_cl hy, fun b1 b2 H z2 c c2 hP => ?_⟩
      obtain ⟨H1, a1, a2⟩ := l_spell (sc := sc) (v := v4) hP
      obtain ⟨H2, d1, d2⟩ := p_clear (sc := sc) a1
      refine det_of ?_
      simp (disch := omega) only [e_90, w_90_0, w_90_1, w_90_2, w_90_3, w_90_4, w_90_5, w_90_6, w_90_7, w_90_8, w_90_9, w_90_10, w_90_11, w_90_12, w_90_13, w_90_14, w_90_15, w_90_16, w_90_17, w_90_18, w_90_19, w_90_20, w_90_21, w_90_22, w_90_23, w_90_24, w_90_25, w_90_26, w_90_27, w_90_28, w_90_29, w_90_30, w_90_31, w_90_32, w_90_33, w_90_34, w_90_35, w_90_36, w_90_37, w_90_38, w_90_39, w_90_40, w_90_41, w_90_42, w_90_43, w_90_44, w_90_45, w_90_46, w_90_47, w_90_48, w_90_49, w_90_50, w_90_51, w_90_52, w_90_53, w_90_54, w_90_55, w_90_56, w_90_57, w_90_58, w_90_59, w_90_60, w_90_61, w_90_62, w_90_63, w_90_64, w_90_65, w_90_66, w_90_67, w_90_68, w_90_69, w_90_70, w_90_71, w_90_72, w_90_73, w_90_74, w_90_75, w_90_76, w_90_77, w_90_78, w_90_79, w_90_80, w_90_81, w_90_82, w_90_83, w_90_84, w_90_85, getK, putK, ialK, iasK, aalK, aasK, alnK, zgt_u, zgt_a, Option.toList_some, Option.toList_none, List.cons_append, List.nil_append, List.map_cons, List.map_nil, List.replicate, ite_true, ite_false, if_true, if_false, List.getElem?_cons_zero, List.getElem?_cons_succ, List.set_cons_zero, List.set_cons_succ, true_and, and_true, beq_self_eq_true, zite, Int.toNat_natCast, if_pos, if_neg, zwr_id, zand, hv, l_low, a2, p_rc a1, d2]
      first | exact ⟨rfl, PP_c d1⟩ | exact PP_c d1
    · refine ⟨(tyS (spS z (spC v4)).2).1, _, okW_ty hy, fun b1 b2 H z2 c c2 hP => ?_⟩
      obtain ⟨H1, a1, a2⟩ := l_spell (sc := sc) (v := v4) hP
      obtain ⟨H2, d1, d2⟩ := p_type (sc := sc) a1 hy.1
      refine det_of ?_
      simp (disch := omega) only [e_90, w_90_0, w_90_1, w_90_2, w_90_3, w_90_4, w_90_5, w_90_6, w_90_7, w_90_8, w_90_9, w_90_10, w_90_11, w_90_12, w_90_13, w_90_14, w_90_15, w_90_16, w_90_17, w_90_18, w_90_19, w_90_20, w_90_21, w_90_22, w_90_23, w_90_24, w_90_25, w_90_26, w_90_27, w_90_28, w_90_29, w_90_30, w_90_31, w_90_32, w_90_33, w_90_34, w_90_35, w_90_36, w_90_37, w_90_38, w_90_39, w_90_40, w_90_41, w_90_42, w_90_43, w_90_44, w_90_45, w_90_46, w_90_47, w_90_48, w_90_49, w_90_50, w_90_51, w_90_52, w_90_53, w_90_54, w_90_55, w_90_56, w_90_57, w_90_58, w_90_59, w_90_60, w_90_61, w_90_62, w_90_63, w_90_64, w_90_65, w_90_66, w_90_67, w_90_68, w_90_69, w_90_70, w_90_71, w_90_72, w_90_73, w_90_74, w_90_75, w_90_76, w_90_77, w_90_78, w_90_79, w_90_80, w_90_81, w_90_82, w_90_83, w_90_84, w_90_85, getK, putK, ialK, iasK, aalK, aasK, alnK, zgt_u, zgt_a, Option.toList_some, Option.toList_none, List.cons_append, List.nil_append, List.map_cons, List.map_nil, List.replicate, ite_true, ite_false, if_true, if_false, List.getElem?_cons_zero, List.getElem?_cons_succ, List.set_cons_zero, List.set_cons_succ, true_and, and_true, beq_self_eq_true, zite, Int.toNat_natCast, if_pos, if_neg, zwr_id, zand, hv, l_low, a2, p_rc a1, d2]
      first | exact ⟨rfl, PP_c d1⟩ | exact PP_c d1
  · refine ⟨(tyS (spS z (spC v4)).2).1, _, okW_ty hy, fun b1 b2 H z2 c c2 hP => ?_⟩
    obtain ⟨H1, a1, a2⟩ := l_spell (sc := sc) (v := v4) hP
    obtain ⟨H2, d1, d2⟩ := p_type (sc := sc) a1 hy.1
    refine det_of ?_
    simp (disch := omega) only [e_90, w_90_0, w_90_1, w_90_2, w_90_3, w_90_4, w_90_5, w_90_6, w_90_7, w_90_8, w_90_9, w_90_10, w_90_11, w_90_12, w_90_13, w_90_14, w_90_15, w_90_16, w_90_17, w_90_18, w_90_19, w_90_20, w_90_21, w_90_22, w_90_23, w_90_24, w_90_25, w_90_26, w_90_27, w_90_28, w_90_29, w_90_30, w_90_31, w_90_32, w_90_33, w_90_34, w_90_35, w_90_36, w_90_37, w_90_38, w_90_39, w_90_40, w_90_41, w_90_42, w_90_43, w_90_44, w_90_45, w_90_46, w_90_47, w_90_48, w_90_49, w_90_50, w_90_51, w_90_52, w_90_53, w_90_54, w_90_55, w_90_56, w_90_57, w_90_58, w_90_59, w_90_60, w_90_61, w_90_62, w_90_63, w_90_64, w_90_65, w_90_66, w_90_67, w_90_68, w_90_69, w_90_70, w_90_71, w_90_72, w_90_73, w_90_74, w_90_75, w_90_76, w_90_77, w_90_78, w_90_79, w_90_80, w_90_81, w_90_82, w_90_83, w_90_84, w_90_85, w_90_86, w_90_87, w_90_88, getK, putK, ialK, iasK, aalK, aasK, alnK, zgt_u, zgt_a, Option.toList_some, Option.toList_none, List.cons_append, List.nil_append, List.map_cons, List.map_nil, List.replicate, ite_true, ite_false, if_true, if_false, List.getElem?_cons_zero, List.getElem?_cons_succ, List.set_cons_zero, List.set_cons_succ, true_and, and_true, beq_self_eq_true, zite, Int.toNat_natCast, if_pos, if_neg, zwr_id, zand, hv, l_low, a2, p_rc a1, d2]
    first | exact ⟨rfl, PP_c d1⟩ | exact PP_c d1
end
