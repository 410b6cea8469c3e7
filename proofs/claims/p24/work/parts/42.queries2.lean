/-! THE CLASS ASKED ABOUT ITS TEXT -/
def mtS (z : zS) : Int := sumF (fun i => (mN z.S.1 z.T i 6 1).length) z.n.toNat 0
def wmS (z : zS) : Int := sumF (fun i => wsum (mN z.S.1 z.T i 6 1)) z.n.toNat 0
def meS (z : zS) : UInt32 := if mtS z = 0 then FP.fconst0 else FP.fdiv (FP.i2f (Int32.ofInt (wmS z))) (FP.i2f (Int32.ofInt (mtS z)))
def ttS (z : zS) (w : Int) : Int := if w = 0 then mtS z else if w = 1 then wmS z else if w = 2 then clR (fun e => loD z.S.1 z.T e 6) z.n.toNat 0 0 else if w = 3 then hvR (fun i => wsum (mN z.S.1 z.T i 6 1)) z.n.toNat 0 (-9999) 0 else if w = 4 then (dvR (fun i => mN z.S.1 z.T i 6 1) z.n.toNat).1 z.n else if w = 5 then (dvR (fun i => mN z.S.1 z.T i 6 1) z.n.toNat).2 z.n else -1
section
variable {sc : Nat × (Int → Int)} {h : zH} {Q : Option zV → zH → Prop} {z : zS} {c : Nat}
theorem mtS_b (hz : okZ z) : 0 ≤ mtS z ∧ mtS z ≤ 360 := by
  have hT := hz.2.2.2.2.2.2
  have h1 := hT.1
  have h2 := hT.2.1
  have := sumF_b (f := fun i => ((mN z.S.1 z.T i 6 1).length : Int)) (K := 6) (by omega) z.n.toNat 0 (fun k _ _ => by have := mN_len z.S.1 z.T k 6 1; omega)
  have h0 : ∀ (j : Nat) (i : Int), 0 ≤ sumF (fun i => ((mN z.S.1 z.T i 6 1).length : Int)) j i := by
    intro j
    induction j with
    | zero => intro i; exact Int.le_refl _
    | succ j ih => intro i; unfold sumF; have := ih (i + 1); omega
  have := h0 z.n.toNat 0
  unfold mtS
  omega
theorem s5_at {i w : Int} (hC : rC h z c) (hz : okZ z) : zca sc 77 [.inr (.inl (some 0)), .inl i, .inl w] h Q = Q (some (.inl (atS z i w))) h := by
  obtain ⟨c0, c1, c2, -⟩ := id hC
  obtain ⟨o1, o2, o3, o4, o5, -⟩ := id hz.1
  have hT := hz.2.2.2.2.2.2
  have m1 := c2.2.1
  unfold atS
  by_cases h1 : 0 ≤ i
  · by_cases h2 : i < z.n
    · rw [if_pos ⟨h1, h2⟩]
      by_cases k0 : w = 0
      · subst k0
        simp (disch := omega) only [e_77, w_77_0, w_77_1, w_77_2, w_77_3, w_77_4, w_77_5, w_77_6, w_77_7, w_77_8, w_77_9, w_77_10, w_77_11, w_77_12, w_77_13, w_77_14, w_77_15, w_77_16, w_77_17, w_77_18, w_77_19, w_77_20, w_77_21, w_77_22, w_77_23, w_77_24, w_77_25, w_77_26, w_77_27, w_77_28, w_77_29, w_77_30, w_77_31, w_77_32, w_77_33, w_77_34, w_77_35, w_77_36, w_77_37, w_77_38, w_77_39, w_77_40, w_77_41, w_77_42, w_77_43, w_77_44, w_77_45, w_77_46, w_77_47, w_77_48, w_77_49, getK, putK, ialK, iasK, aalK, aasK, alnK, zgt_u, zgt_a, Option.toList_some, Option.toList_none, List.cons_append, List.nil_append, List.map_cons, List.map_nil, List.replicate, ite_true, ite_false, if_true, if_false, List.getElem?_cons_zero, List.getElem?_cons_succ, List.set_cons_zero, List.set_cons_succ, true_and, and_true, beq_self_eq_true, zite, Int.toNat_natCast, if_pos, if_neg, zwr_id, zand, c0, rDt_rc c2, s_live c2, rTx_rc c1, s_length c1, s_letterAt c1 hT]
      by_cases k1 : w = 1
      · subst k1
        simp (disch := omega) only [e_77, w_77_0, w_77_1, w_77_2, w_77_3, w_77_4, w_77_5, w_77_6, w_77_7, w_77_8, w_77_9, w_77_10, w_77_11, w_77_12, w_77_13, w_77_14, w_77_15, w_77_16, w_77_17, w_77_18, w_77_19, w_77_20, w_77_21, w_77_22, w_77_23, w_77_24, w_77_25, w_77_26, w_77_27, w_77_28, w_77_29, w_77_30, w_77_31, w_77_32, w_77_33, w_77_34, w_77_35, w_77_36, w_77_37, w_77_38, w_77_39, w_77_40, w_77_41, w_77_42, w_77_43, w_77_44, w_77_45, w_77_46, w_77_47, w_77_48, w_77_49, getK, putK, ialK, iasK, aalK, aasK, alnK, zgt_u, zgt_a, Option.toList_some, Option.toList_none, List.cons_append, List.nil_append, List.map_cons, List.map_nil, List.replicate, ite_true, ite_false, if_true, if_false, List.getElem?_cons_zero, List.getElem?_cons_succ, List.set_cons_zero, List.set_cons_succ, true_and, and_true, beq_self_eq_true, zite, Int.toNat_natCast, if_pos, if_neg, zwr_id, zand, c0, rDt_rc c2, s_live c2, rTx_rc c1, s_length c1, s_matchesAt c1 hT m1 o5 o4]
      by_cases k2 : w = 2
      · subst k2
        simp (disch := omega) only [e_77, w_77_0, w_77_1, w_77_2, w_77_3, w_77_4, w_77_5, w_77_6, w_77_7, w_77_8, w_77_9, w_77_10, w_77_11, w_77_12, w_77_13, w_77_14, w_77_15, w_77_16, w_77_17, w_77_18, w_77_19, w_77_20, w_77_21, w_77_22, w_77_23, w_77_24, w_77_25, w_77_26, w_77_27, w_77_28, w_77_29, w_77_30, w_77_31, w_77_32, w_77_33, w_77_34, w_77_35, w_77_36, w_77_37, w_77_38, w_77_39, w_77_40, w_77_41, w_77_42, w_77_43, w_77_44, w_77_45, w_77_46, w_77_47, w_77_48, w_77_49, getK, putK, ialK, iasK, aalK, aasK, alnK, zgt_u, zgt_a, Option.toList_some, Option.toList_none, List.cons_append, List.nil_append, List.map_cons, List.map_nil, List.replicate, ite_true, ite_false, if_true, if_false, List.getElem?_cons_zero, List.getElem?_cons_succ, List.set_cons_zero, List.set_cons_succ, true_and, and_true, beq_self_eq_true, zite, Int.toNat_natCast, if_pos, if_neg, zwr_id, zand, c0, rDt_rc c2, s_live c2, rTx_rc c1, s_length c1, s_weightAt4 c1 hT m1 o5 o4 o1]
      by_cases k3 : w = 3
      · subst k3
        simp (disch := omega) only [e_77, w_77_0, w_77_1, w_77_2, w_77_3, w_77_4, w_77_5, w_77_6, w_77_7, w_77_8, w_77_9, w_77_10, w_77_11, w_77_12, w_77_13, w_77_14, w_77_15, w_77_16, w_77_17, w_77_18, w_77_19, w_77_20, w_77_21, w_77_22, w_77_23, w_77_24, w_77_25, w_77_26, w_77_27, w_77_28, w_77_29, w_77_30, w_77_31, w_77_32, w_77_33, w_77_34, w_77_35, w_77_36, w_77_37, w_77_38, w_77_39, w_77_40, w_77_41, w_77_42, w_77_43, w_77_44, w_77_45, w_77_46, w_77_47, w_77_48, w_77_49, getK, putK, ialK, iasK, aalK, aasK, alnK, zgt_u, zgt_a, Option.toList_some, Option.toList_none, List.cons_append, List.nil_append, List.map_cons, List.map_nil, List.replicate, ite_true, ite_false, if_true, if_false, List.getElem?_cons_zero, List.getElem?_cons_succ, List.set_cons_zero, List.set_cons_succ, true_and, and_true, beq_self_eq_true, zite, Int.toNat_natCast, if_pos, if_neg, zwr_id, zand, c0, rDt_rc c2, s_live c2, rTx_rc c1, s_length c1, s_longestCodeAt c1 hT m1 o5 o4]
      by_cases k4 : w = 4
      · subst k4
        by_cases hc : cvB (fun e => loD z.S.1 z.T e 6) i z.n 6 i = true
        · rw [zb_t hc]
          simp (disch := omega) only [e_77, w_77_0, w_77_1, w_77_2, w_77_3, w_77_4, w_77_5, w_77_6, w_77_7, w_77_8, w_77_9, w_77_10, w_77_11, w_77_12, w_77_13, w_77_14, w_77_15, w_77_16, w_77_17, w_77_18, w_77_19, w_77_20, w_77_21, w_77_22, w_77_23, w_77_24, w_77_25, w_77_26, w_77_27, w_77_28, w_77_29, w_77_30, w_77_31, w_77_32, w_77_33, w_77_34, w_77_35, w_77_36, w_77_37, w_77_38, w_77_39, w_77_40, w_77_41, w_77_42, w_77_43, w_77_44, w_77_45, w_77_46, w_77_47, w_77_48, w_77_49, getK, putK, ialK, iasK, aalK, aasK, alnK, zgt_u, zgt_a, Option.toList_some, Option.toList_none, List.cons_append, List.nil_append, List.map_cons, List.map_nil, List.replicate, ite_true, ite_false, if_true, if_false, List.getElem?_cons_zero, List.getElem?_cons_succ, List.set_cons_zero, List.set_cons_succ, true_and, and_true, beq_self_eq_true, zite, Int.toNat_natCast, if_pos, if_neg, zwr_id, zand, c0, rDt_rc c2, s_live c2, rTx_rc c1, s_length c1, s_covers c1 hT m1 o5 o4, zb_eq, hc, not_true]
        · rw [zb_f hc]
          simp (disch := omega) only [e_77, w_77_0, w_77_1, w_77_2, w_77_3, w_77_4, w_77_5, w_77_6, w_77_7, w_77_8, w_77_9, w_77_10, w_77_11, w_77_12, w_77_13, w_77_14, w_77_15, w_77_16, w_77_17, w_77_18, w_77_19, w_77_20, w_77_21, w_77_22, w_77_23, w_77_24, w_77_25, w_77_26, w_77_27, w_77_28, w_77_29, w_77_30, w_77_31, w_77_32, w_77_33, w_77_34, w_77_35, w_77_36, w_77_37, w_77_38, w_77_39, w_77_40, w_77_41, w_77_42, w_77_43, w_77_44, w_77_45, w_77_46, w_77_47, w_77_48, w_77_49, getK, putK, ialK, iasK, aalK, aasK, alnK, zgt_u, zgt_a, Option.toList_some, Option.toList_none, List.cons_append, List.nil_append, List.map_cons, List.map_nil, List.replicate, ite_true, ite_false, if_true, if_false, List.getElem?_cons_zero, List.getElem?_cons_succ, List.set_cons_zero, List.set_cons_succ, true_and, and_true, beq_self_eq_true, zite, Int.toNat_natCast, if_pos, if_neg, zwr_id, zand, c0, rDt_rc c2, s_live c2, rTx_rc c1, s_length c1, s_covers c1 hT m1 o5 o4, zb_eq, hc, not_false_eq_true]
          rw [if_pos (by simp)]
      simp (disch := omega) only [e_77, w_77_0, w_77_1, w_77_2, w_77_3, w_77_4, w_77_5, w_77_6, w_77_7, w_77_8, w_77_9, w_77_10, w_77_11, w_77_12, w_77_13, w_77_14, w_77_15, w_77_16, w_77_17, w_77_18, w_77_19, w_77_20, w_77_21, w_77_22, w_77_23, w_77_24, w_77_25, w_77_26, w_77_27, w_77_28, w_77_29, w_77_30, w_77_31, w_77_32, w_77_33, w_77_34, w_77_35, w_77_36, w_77_37, w_77_38, w_77_39, w_77_40, w_77_41, w_77_42, w_77_43, w_77_44, w_77_45, w_77_46, w_77_47, w_77_48, w_77_49, getK, putK, ialK, iasK, aalK, aasK, alnK, zgt_u, zgt_a, Option.toList_some, Option.toList_none, List.cons_append, List.nil_append, List.map_cons, List.map_nil, List.replicate, ite_true, ite_false, if_true, if_false, List.getElem?_cons_zero, List.getElem?_cons_succ, List.set_cons_zero, List.set_cons_succ, true_and, and_true, beq_self_eq_true, zite, Int.toNat_natCast, if_pos, if_neg, zwr_id, zand, c0, rDt_rc c2, s_live c2, rTx_rc c1, s_length c1]
    · rw [if_neg (fun q => h2 q.2)]
      simp (disch := omega) only [e_77, w_77_0, w_77_1, w_77_2, w_77_3, w_77_4, w_77_5, w_77_6, w_77_7, w_77_8, w_77_9, w_77_10, w_77_11, w_77_12, w_77_13, w_77_14, w_77_15, w_77_16, w_77_17, w_77_18, w_77_19, w_77_20, w_77_21, w_77_22, w_77_23, w_77_24, w_77_25, w_77_26, w_77_27, w_77_28, w_77_29, w_77_30, w_77_31, w_77_32, w_77_33, w_77_34, w_77_35, w_77_36, w_77_37, w_77_38, w_77_39, w_77_40, w_77_41, w_77_42, w_77_43, w_77_44, w_77_45, w_77_46, w_77_47, w_77_48, w_77_49, getK, putK, ialK, iasK, aalK, aasK, alnK, zgt_u, zgt_a, Option.toList_some, Option.toList_none, List.cons_append, List.nil_append, List.map_cons, List.map_nil, List.replicate, ite_true, ite_false, if_true, if_false, List.getElem?_cons_zero, List.getElem?_cons_succ, List.set_cons_zero, List.set_cons_succ, true_and, and_true, beq_self_eq_true, zite, Int.toNat_natCast, if_pos, if_neg, zwr_id, zand, c0, rTx_rc c1, s_length c1]
  · rw [if_neg (fun q => h1 q.1)]
    simp (disch := omega) only [e_77, w_77_0, w_77_1, w_77_2, w_77_3, w_77_4, w_77_5, w_77_6, w_77_7, w_77_8, w_77_9, w_77_10, w_77_11, w_77_12, w_77_13, w_77_14, w_77_15, w_77_16, w_77_17, w_77_18, w_77_19, w_77_20, w_77_21, w_77_22, w_77_23, w_77_24, w_77_25, w_77_26, w_77_27, w_77_28, w_77_29, w_77_30, w_77_31, w_77_32, w_77_33, w_77_34, w_77_35, w_77_36, w_77_37, w_77_38, w_77_39, w_77_40, w_77_41, w_77_42, w_77_43, w_77_44, w_77_45, w_77_46, w_77_47, w_77_48, w_77_49, getK, putK, ialK, iasK, aalK, aasK, alnK, zgt_u, zgt_a, Option.toList_some, Option.toList_none, List.cons_append, List.nil_append, List.map_cons, List.map_nil, List.replicate, ite_true, ite_false, if_true, if_false, List.getElem?_cons_zero, List.getElem?_cons_succ, List.set_cons_zero, List.set_cons_succ, true_and, and_true, beq_self_eq_true, zite, Int.toNat_natCast, if_pos, if_neg, zwr_id, zand, c0]
theorem s5_mean (hC : rC h z c) (hz : okZ z) : zca sc 80 [.inr (.inl (some 0))] h Q = Q (some (.inr (.inr (.inl (meS z))))) h := by
  obtain ⟨c0, c1, c2, -⟩ := id hC
  obtain ⟨o1, o2, o3, o4, o5, -⟩ := id hz.1
  have hT := hz.2.2.2.2.2.2
  have m1 := c2.2.1
  have hb := mtS_b hz
  unfold meS
  have e1 : ∀ Q : Option zV → zH → Prop, zca sc 54 [.inr (.inl (some 1)), .inr (.inl (some (5 + 1)))] h Q = Q (some (.inl (mtS z))) h := fun Q => s_matches c1 hT m1 o5 o4
  have e2 : ∀ Q : Option zV → zH → Prop, zca sc 55 [.inr (.inl (some 1)), .inr (.inl (some (5 + 1)))] h Q = Q (some (.inl (wmS z))) h := fun Q => s_wom c1 hT m1 o5 o4 o1
  by_cases k : mtS z = 0
  · rw [if_pos k]
    simp (disch := omega) only [e_80, w_80_0, w_80_1, w_80_2, w_80_3, w_80_4, w_80_5, w_80_6, w_80_7, w_80_8, w_80_9, w_80_10, w_80_11, w_80_12, w_80_13, w_80_14, w_80_15, w_80_16, w_80_17, w_80_18, w_80_19, w_80_20, w_80_21, getK, putK, ialK, iasK, aalK, aasK, alnK, zgt_u, zgt_a, Option.toList_some, Option.toList_none, List.cons_append, List.nil_append, List.map_cons, List.map_nil, List.replicate, ite_true, ite_false, if_true, if_false, List.getElem?_cons_zero, List.getElem?_cons_succ, List.set_cons_zero, List.set_cons_succ, true_and, and_true, beq_self_eq_true, zite, Int.toNat_natCast, if_pos, if_neg, zwr_id, zand, c0, rDt_rc c2, s_live c2, rTx_rc c1, e1, k]
  · rw [if_neg k]
    have hn := fdiv_ok (a := wmS z) (b := mtS z) (by omega) hb.2
    simp (disch := omega) only [e_80, w_80_0, w_80_1, w_80_2, w_80_3, w_80_4, w_80_5, w_80_6, w_80_7, w_80_8, w_80_9, w_80_10, w_80_11, w_80_12, w_80_13, w_80_14, w_80_15, w_80_16, w_80_17, w_80_18, w_80_19, w_80_20, w_80_21, getK, putK, ialK, iasK, aalK, aasK, alnK, zgt_u, zgt_a, Option.toList_some, Option.toList_none, List.cons_append, List.nil_append, List.map_cons, List.map_nil, List.replicate, ite_true, ite_false, if_true, if_false, List.getElem?_cons_zero, List.getElem?_cons_succ, List.set_cons_zero, List.set_cons_succ, true_and, and_true, beq_self_eq_true, zite, Int.toNat_natCast, if_pos, if_neg, zwr_id, zand, c0, rDt_rc c2, s_live c2, rTx_rc c1, e1, e2, hn]
theorem s5_total {w : Int} (hC : rC h z c) (hz : okZ z) (hQ : ∀ h', rC h' z (c + 1) → frC h h' → Q (some (.inl (ttS z w))) h') : zca sc 78 [.inr (.inl (some 0)), .inl w] h Q := by
  obtain ⟨c0, c1, c2, -⟩ := id hC
  obtain ⟨o1, o2, o3, o4, o5, -⟩ := id hz.1
  have hT := hz.2.2.2.2.2.2
  have m1 := c2.2.1
  have e1 : ∀ Q : Option zV → zH → Prop, zca sc 54 [.inr (.inl (some 1)), .inr (.inl (some (5 + 1)))] h Q = Q (some (.inl (mtS z))) h := fun Q => s_matches c1 hT m1 o5 o4
  have e2 : ∀ Q : Option zV → zH → Prop, zca sc 55 [.inr (.inl (some 1)), .inr (.inl (some (5 + 1)))] h Q = Q (some (.inl (wmS z))) h := fun Q => s_wom c1 hT m1 o5 o4 o1
  unfold ttS at hQ
  by_cases k0 : w = 0
  · subst k0
    simp (disch := omega) only [e_78, w_78_0, w_78_1, w_78_2, w_78_3, w_78_4, w_78_5, w_78_6, w_78_7, w_78_8, w_78_9, w_78_10, w_78_11, w_78_12, w_78_13, w_78_14, w_78_15, w_78_16, w_78_17, w_78_18, w_78_19, w_78_20, w_78_21, w_78_22, w_78_23, w_78_24, w_78_25, w_78_26, w_78_27, w_78_28, w_78_29, w_78_30, w_78_31, w_78_32, w_78_33, w_78_34, w_78_35, w_78_36, w_78_37, getK, putK, ialK, iasK, aalK, aasK, alnK, zgt_u, zgt_a, Option.toList_some, Option.toList_none, List.cons_append, List.nil_append, List.map_cons, List.map_nil, List.replicate, ite_true, ite_false, if_true, if_false, List.getElem?_cons_zero, List.getElem?_cons_succ, List.set_cons_zero, List.set_cons_succ, true_and, and_true, beq_self_eq_true, zite, Int.toNat_natCast, if_pos, if_neg, zwr_id, zand, c0, rDt_rc c2, s_live c2, rTx_rc c1, e1]
    exact hQ h (rC_c hC) frC_rf
  rw [if_neg k0] at hQ
  by_cases k1 : w = 1
  · subst k1
    simp (disch := omega) only [e_78, w_78_0, w_78_1, w_78_2, w_78_3, w_78_4, w_78_5, w_78_6, w_78_7, w_78_8, w_78_9, w_78_10, w_78_11, w_78_12, w_78_13, w_78_14, w_78_15, w_78_16, w_78_17, w_78_18, w_78_19, w_78_20, w_78_21, w_78_22, w_78_23, w_78_24, w_78_25, w_78_26, w_78_27, w_78_28, w_78_29, w_78_30, w_78_31, w_78_32, w_78_33, w_78_34, w_78_35, w_78_36, w_78_37, getK, putK, ialK, iasK, aalK, aasK, alnK, zgt_u, zgt_a, Option.toList_some, Option.toList_none, List.cons_append, List.nil_append, List.map_cons, List.map_nil, List.replicate, ite_true, ite_false, if_true, if_false, List.getElem?_cons_zero, List.getElem?_cons_succ, List.set_cons_zero, List.set_cons_succ, true_and, and_true, beq_self_eq_true, zite, Int.toNat_natCast, if_pos, if_neg, zwr_id, zand, c0, rDt_rc c2, s_live c2, rTx_rc c1, e2]
    exact hQ h (rC_c hC) frC_rf
  rw [if_neg k1] at hQ
  by_cases k2 : w = 2
  · subst k2
    simp (disch := omega) only [e_78, w_78_0, w_78_1, w_78_2, w_78_3, w_78_4, w_78_5, w_78_6, w_78_7, w_78_8, w_78_9, w_78_10, w_78_11, w_78_12, w_78_13, w_78_14, w_78_15, w_78_16, w_78_17, w_78_18, w_78_19, w_78_20, w_78_21, w_78_22, w_78_23, w_78_24, w_78_25, w_78_26, w_78_27, w_78_28, w_78_29, w_78_30, w_78_31, w_78_32, w_78_33, w_78_34, w_78_35, w_78_36, w_78_37, getK, putK, ialK, iasK, aalK, aasK, alnK, zgt_u, zgt_a, Option.toList_some, Option.toList_none, List.cons_append, List.nil_append, List.map_cons, List.map_nil, List.replicate, ite_true, ite_false, if_true, if_false, List.getElem?_cons_zero, List.getElem?_cons_succ, List.set_cons_zero, List.set_cons_succ, true_and, and_true, beq_self_eq_true, zite, Int.toNat_natCast, if_pos, if_neg, zwr_id, zand, c0, rDt_rc c2, s_live c2, rTx_rc c1, s_coveredLetters c1 hT m1 o5 o4]
    exact hQ h (rC_c hC) frC_rf
  rw [if_neg k2] at hQ
  by_cases k3 : w = 3
  · subst k3
    simp (disch := omega) only [e_78, w_78_0, w_78_1, w_78_2, w_78_3, w_78_4, w_78_5, w_78_6, w_78_7, w_78_8, w_78_9, w_78_10, w_78_11, w_78_12, w_78_13, w_78_14, w_78_15, w_78_16, w_78_17, w_78_18, w_78_19, w_78_20, w_78_21, w_78_22, w_78_23, w_78_24, w_78_25, w_78_26, w_78_27, w_78_28, w_78_29, w_78_30, w_78_31, w_78_32, w_78_33, w_78_34, w_78_35, w_78_36, w_78_37, getK, putK, ialK, iasK, aalK, aasK, alnK, zgt_u, zgt_a, Option.toList_some, Option.toList_none, List.cons_append, List.nil_append, List.map_cons, List.map_nil, List.replicate, ite_true, ite_false, if_true, if_false, List.getElem?_cons_zero, List.getElem?_cons_succ, List.set_cons_zero, List.set_cons_succ, true_and, and_true, beq_self_eq_true, zite, Int.toNat_natCast, if_pos, if_neg, zwr_id, zand, c0, rDt_rc c2, s_live c2, rTx_rc c1, s_heaviest c1 hT m1 o5 o4 o1]
    exact hQ h (rC_c hC) frC_rf
  rw [if_neg k3] at hQ
  by_cases k4 : w = 4
  · subst k4
    rw [if_pos rfl] at hQ
    simp (disch := omega) only [e_78, w_78_0, w_78_1, w_78_2, w_78_3, w_78_4, w_78_5, w_78_6, w_78_7, w_78_8, w_78_9, w_78_10, w_78_11, w_78_12, w_78_13, w_78_14, w_78_15, w_78_16, w_78_17, w_78_18, w_78_19, w_78_20, w_78_21, w_78_22, w_78_23, w_78_24, w_78_25, w_78_26, w_78_27, w_78_28, w_78_29, w_78_30, w_78_31, w_78_32, w_78_33, w_78_34, w_78_35, w_78_36, w_78_37, getK, putK, ialK, iasK, aalK, aasK, alnK, zgt_u, zgt_a, Option.toList_some, Option.toList_none, List.cons_append, List.nil_append, List.map_cons, List.map_nil, List.replicate, ite_true, ite_false, if_true, if_false, List.getElem?_cons_zero, List.getElem?_cons_succ, List.set_cons_zero, List.set_cons_succ, true_and, and_true, beq_self_eq_true, zite, Int.toNat_natCast, if_pos, if_neg, zwr_id, zand, c0, rDt_rc c2, s_live c2, rTx_rc c1]
    refine s_divisionWeight c1 hT m1 o5 o4 o1 (by omega) (fun h1 a1 a2 => ?_)
    simp (disch := omega) only [e_78, w_78_0, w_78_1, w_78_2, w_78_3, w_78_4, w_78_5, w_78_6, w_78_7, w_78_8, w_78_9, w_78_10, w_78_11, w_78_12, w_78_13, w_78_14, w_78_15, w_78_16, w_78_17, w_78_18, w_78_19, w_78_20, w_78_21, w_78_22, w_78_23, w_78_24, w_78_25, w_78_26, w_78_27, w_78_28, w_78_29, w_78_30, w_78_31, w_78_32, w_78_33, w_78_34, w_78_35, w_78_36, w_78_37, getK, putK, ialK, iasK, aalK, aasK, alnK, zgt_u, zgt_a, Option.toList_some, Option.toList_none, List.cons_append, List.nil_append, List.map_cons, List.map_nil, List.replicate, ite_true, ite_false, if_true, if_false, List.getElem?_cons_zero, List.getElem?_cons_succ, List.set_cons_zero, List.set_cons_succ, true_and, and_true, beq_self_eq_true, zite, Int.toNat_natCast, if_pos, if_neg, zwr_id, zand]
    exact hQ h1 (rC_T hC a1 a2) (frC_fr a2 (by omega))
  rw [if_neg k4] at hQ
  by_cases k5 : w = 5
  · subst k5
    rw [if_pos rfl] at hQ
    simp (disch := omega) only [e_78, w_78_0, w_78_1, w_78_2, w_78_3, w_78_4, w_78_5, w_78_6, w_78_7, w_78_8, w_78_9, w_78_10, w_78_11, w_78_12, w_78_13, w_78_14, w_78_15, w_78_16, w_78_17, w_78_18, w_78_19, w_78_20, w_78_21, w_78_22, w_78_23, w_78_24, w_78_25, w_78_26, w_78_27, w_78_28, w_78_29, w_78_30, w_78_31, w_78_32, w_78_33, w_78_34, w_78_35, w_78_36, w_78_37, getK, putK, ialK, iasK, aalK, aasK, alnK, zgt_u, zgt_a, Option.toList_some, Option.toList_none, List.cons_append, List.nil_append, List.map_cons, List.map_nil, List.replicate, ite_true, ite_false, if_true, if_false, List.getElem?_cons_zero, List.getElem?_cons_succ, List.set_cons_zero, List.set_cons_succ, true_and, and_true, beq_self_eq_true, zite, Int.toNat_natCast, if_pos, if_neg, zwr_id, zand, c0, rDt_rc c2, s_live c2, rTx_rc c1]
    refine s_divisionMatches c1 hT m1 o5 o4 o1 (by omega) (fun h1 a1 a2 => ?_)
    simp (disch := omega) only [e_78, w_78_0, w_78_1, w_78_2, w_78_3, w_78_4, w_78_5, w_78_6, w_78_7, w_78_8, w_78_9, w_78_10, w_78_11, w_78_12, w_78_13, w_78_14, w_78_15, w_78_16, w_78_17, w_78_18, w_78_19, w_78_20, w_78_21, w_78_22, w_78_23, w_78_24, w_78_25, w_78_26, w_78_27, w_78_28, w_78_29, w_78_30, w_78_31, w_78_32, w_78_33, w_78_34, w_78_35, w_78_36, w_78_37, getK, putK, ialK, iasK, aalK, aasK, alnK, zgt_u, zgt_a, Option.toList_some, Option.toList_none, List.cons_append, List.nil_append, List.map_cons, List.map_nil, List.replicate, ite_true, ite_false, if_true, if_false, List.getElem?_cons_zero, List.getElem?_cons_succ, List.set_cons_zero, List.set_cons_succ, true_and, and_true, beq_self_eq_true, zite, Int.toNat_natCast, if_pos, if_neg, zwr_id, zand]
    exact hQ h1 (rC_T hC a1 a2) (frC_fr a2 (by omega))
  rw [if_neg k5] at hQ
  simp (disch := omega) only [e_78, w_78_0, w_78_1, w_78_2, w_78_3, w_78_4, w_78_5, w_78_6, w_78_7, w_78_8, w_78_9, w_78_10, w_78_11, w_78_12, w_78_13, w_78_14, w_78_15, w_78_16, w_78_17, w_78_18, w_78_19, w_78_20, w_78_21, w_78_22, w_78_23, w_78_24, w_78_25, w_78_26, w_78_27, w_78_28, w_78_29, w_78_30, w_78_31, w_78_32, w_78_33, w_78_34, w_78_35, w_78_36, w_78_37, getK, putK, ialK, iasK, aalK, aasK, alnK, zgt_u, zgt_a, Option.toList_some, Option.toList_none, List.cons_append, List.nil_append, List.map_cons, List.map_nil, List.replicate, ite_true, ite_false, if_true, if_false, List.getElem?_cons_zero, List.getElem?_cons_succ, List.set_cons_zero, List.set_cons_succ, true_and, and_true, beq_self_eq_true, zite, Int.toNat_natCast, if_pos, if_neg, zwr_id, zand, c0, rDt_rc c2, s_live c2, rTx_rc c1]
  exact hQ h (rC_c hC) frC_rf
theorem lp_find0 {k : Int} (hC : rC h z c) (hz : okZ z) (l3 : Option zV) : ∀ (j : Nat) (i l : Int) (l6 : Option zV), i + j = z.n → 0 ≤ i → 0 ≤ l → l ≤ i → zwp sc 79 24 [some (.inr (.inl (some 0))), some (.inl k), some (.inl 0), l3, some (.inl l), some (.inl i), l6] [] h Q = Q (some (.inl (fiF (fun i => decide (enT z.T (i + 1) (nd z.p).toNat = z.p)) j i (k - l)))) h := by
  obtain ⟨c0, c1, -⟩ := id hC
  have hT := hz.2.2.2.2.2.2
  have h60 := hT.2.1
  have hp := okZ_p hz
  intro j
  induction j with
  | zero =>
    intro i l l6 hi h0 hl hli
    rw [w_79_24]
    simp (disch := omega) only [e_79, w_79_0, w_79_1, w_79_2, w_79_3, w_79_4, w_79_5, w_79_6, w_79_7, w_79_8, w_79_9, w_79_10, w_79_11, w_79_12, w_79_13, w_79_14, w_79_15, w_79_16, w_79_17, w_79_18, w_79_19, w_79_20, w_79_21, w_79_22, w_79_23, w_79_25, w_79_26, w_79_27, w_79_28, w_79_29, w_79_30, w_79_31, w_79_32, w_79_33, w_79_34, w_79_35, w_79_36, w_79_37, w_79_38, w_79_39, w_79_40, w_79_41, w_79_42, w_79_43, w_79_44, w_79_45, w_79_46, w_79_47, w_79_48, w_79_49, w_79_50, w_79_51, w_79_52, w_79_53, w_79_54, w_79_55, w_79_56, w_79_57, w_79_58, w_79_59, w_79_60, w_79_61, getK, putK, ialK, iasK, aalK, aasK, alnK, zgt_u, zgt_a, Option.toList_some, Option.toList_none, List.cons_append, List.nil_append, List.map_cons, List.map_nil, List.replicate, ite_true, ite_false, if_true, if_false, List.getElem?_cons_zero, List.getElem?_cons_succ, List.set_cons_zero, List.set_cons_succ, true_and, and_true, beq_self_eq_true, zite, Int.toNat_natCast, if_pos, if_neg, zwr_id, zand, c0, rTx_rc c1, s_length c1]
    rfl
  | succ j ih =>
    intro i l l6 hi h0 hl hli
    rw [w_79_24]
    unfold fiF
    by_cases e : enT z.T (i + 1) (nd z.p).toNat = z.p
    · rw [if_pos (decide_eq_true e)]
      by_cases e2 : l = k
      · rw [if_pos (by omega)]
        simp (disch := omega) only [e_79, w_79_0, w_79_1, w_79_2, w_79_3, w_79_4, w_79_5, w_79_6, w_79_7, w_79_8, w_79_9, w_79_10, w_79_11, w_79_12, w_79_13, w_79_14, w_79_15, w_79_16, w_79_17, w_79_18, w_79_19, w_79_20, w_79_21, w_79_22, w_79_23, w_79_25, w_79_26, w_79_27, w_79_28, w_79_29, w_79_30, w_79_31, w_79_32, w_79_33, w_79_34, w_79_35, w_79_36, w_79_37, w_79_38, w_79_39, w_79_40, w_79_41, w_79_42, w_79_43, w_79_44, w_79_45, w_79_46, w_79_47, w_79_48, w_79_49, w_79_50, w_79_51, w_79_52, w_79_53, w_79_54, w_79_55, w_79_56, w_79_57, w_79_58, w_79_59, w_79_60, w_79_61, getK, putK, ialK, iasK, aalK, aasK, alnK, zgt_u, zgt_a, Option.toList_some, Option.toList_none, List.cons_append, List.nil_append, List.map_cons, List.map_nil, List.replicate, ite_true, ite_false, if_true, if_false, List.getElem?_cons_zero, List.getElem?_cons_succ, List.set_cons_zero, List.set_cons_succ, true_and, and_true, beq_self_eq_true, zite, Int.toNat_natCast, if_pos, if_neg, zwr_id, zand, c0, rTx_rc c1, s_length c1, s_hasEnding c1 hT, zb_eq, zb_ne, e, e2, not_true]
      · rw [if_neg (by omega), show k - l - 1 = k - (l + 1) by omega]
        simp (disch := omega) only [e_79, w_79_0, w_79_1, w_79_2, w_79_3, w_79_4, w_79_5, w_79_6, w_79_7, w_79_8, w_79_9, w_79_10, w_79_11, w_79_12, w_79_13, w_79_14, w_79_15, w_79_16, w_79_17, w_79_18, w_79_19, w_79_20, w_79_21, w_79_22, w_79_23, w_79_25, w_79_26, w_79_27, w_79_28, w_79_29, w_79_30, w_79_31, w_79_32, w_79_33, w_79_34, w_79_35, w_79_36, w_79_37, w_79_38, w_79_39, w_79_40, w_79_41, w_79_42, w_79_43, w_79_44, w_79_45, w_79_46, w_79_47, w_79_48, w_79_49, w_79_50, w_79_51, w_79_52, w_79_53, w_79_54, w_79_55, w_79_56, w_79_57, w_79_58, w_79_59, w_79_60, w_79_61, getK, putK, ialK, iasK, aalK, aasK, alnK, zgt_u, zgt_a, Option.toList_some, Option.toList_none, List.cons_append, List.nil_append, List.map_cons, List.map_nil, List.replicate, ite_true, ite_false, if_true, if_false, List.getElem?_cons_zero, List.getElem?_cons_succ, List.set_cons_zero, List.set_cons_succ, true_and, and_true, beq_self_eq_true, zite, Int.toNat_natCast, if_pos, if_neg, zwr_id, zand, c0, rTx_rc c1, s_length c1, s_hasEnding c1 hT, zb_eq, zb_ne, e, not_true]
        exact ih (i + 1) (l + 1) _ (by omega) (by omega) (by omega) (by omega)
    · rw [if_neg (fun q => e (of_decide_eq_true q))]
      simp (disch := omega) only [e_79, w_79_0, w_79_1, w_79_2, w_79_3, w_79_4, w_79_5, w_79_6, w_79_7, w_79_8, w_79_9, w_79_10, w_79_11, w_79_12, w_79_13, w_79_14, w_79_15, w_79_16, w_79_17, w_79_18, w_79_19, w_79_20, w_79_21, w_79_22, w_79_23, w_79_25, w_79_26, w_79_27, w_79_28, w_79_29, w_79_30, w_79_31, w_79_32, w_79_33, w_79_34, w_79_35, w_79_36, w_79_37, w_79_38, w_79_39, w_79_40, w_79_41, w_79_42, w_79_43, w_79_44, w_79_45, w_79_46, w_79_47, w_79_48, w_79_49, w_79_50, w_79_51, w_79_52, w_79_53, w_79_54, w_79_55, w_79_56, w_79_57, w_79_58, w_79_59, w_79_60, w_79_61, getK, putK, ialK, iasK, aalK, aasK, alnK, zgt_u, zgt_a, Option.toList_some, Option.toList_none, List.cons_append, List.nil_append, List.map_cons, List.map_nil, List.replicate, ite_true, ite_false, if_true, if_false, List.getElem?_cons_zero, List.getElem?_cons_succ, List.set_cons_zero, List.set_cons_succ, true_and, and_true, beq_self_eq_true, zite, Int.toNat_natCast, if_pos, if_neg, zwr_id, zand, c0, rTx_rc c1, s_length c1, s_hasEnding c1 hT, zb_eq, zb_ne, e, not_false_eq_true]
      exact ih (i + 1) l _ (by omega) (by omega) (by omega) (by omega)
theorem lp_find1 {k : Int} (hC : rC h z c) (hz : okZ z) : ∀ (j : Nat) (i l : Int) (l6 : Option zV), i + j = z.n → 0 ≤ i → 0 ≤ l → l ≤ i → zwp sc 79 24 [some (.inr (.inl (some 0))), some (.inl k), some (.inl 1), some (.inr (.inl (some (5 + 1)))), some (.inl l), some (.inl i), l6] [] h Q = Q (some (.inl (fiF (fun i => decide (0 < ((mN z.S.1 z.T i 6 1).length : Int))) j i (k - l)))) h := by
  obtain ⟨c0, c1, c2, -⟩ := id hC
  obtain ⟨o1, o2, o3, o4, o5, -⟩ := id hz.1
  have hT := hz.2.2.2.2.2.2
  have m1 := c2.2.1
  have h60 := hT.2.1
  have hp := okZ_p hz
  intro j
  induction j with
  | zero =>
    intro i l l6 hi h0 hl hli
    rw [w_79_24]
    simp (disch := omega) only [e_79, w_79_0, w_79_1, w_79_2, w_79_3, w_79_4, w_79_5, w_79_6, w_79_7, w_79_8, w_79_9, w_79_10, w_79_11, w_79_12, w_79_13, w_79_14, w_79_15, w_79_16, w_79_17, w_79_18, w_79_19, w_79_20, w_79_21, w_79_22, w_79_23, w_79_25, w_79_26, w_79_27, w_79_28, w_79_29, w_79_30, w_79_31, w_79_32, w_79_33, w_79_34, w_79_35, w_79_36, w_79_37, w_79_38, w_79_39, w_79_40, w_79_41, w_79_42, w_79_43, w_79_44, w_79_45, w_79_46, w_79_47, w_79_48, w_79_49, w_79_50, w_79_51, w_79_52, w_79_53, w_79_54, w_79_55, w_79_56, w_79_57, w_79_58, w_79_59, w_79_60, w_79_61, getK, putK, ialK, iasK, aalK, aasK, alnK, zgt_u, zgt_a, Option.toList_some, Option.toList_none, List.cons_append, List.nil_append, List.map_cons, List.map_nil, List.replicate, ite_true, ite_false, if_true, if_false, List.getElem?_cons_zero, List.getElem?_cons_succ, List.set_cons_zero, List.set_cons_succ, true_and, and_true, beq_self_eq_true, zite, Int.toNat_natCast, if_pos, if_neg, zwr_id, zand, c0, rTx_rc c1, s_length c1]
    rfl
  | succ j ih =>
    intro i l l6 hi h0 hl hli
    rw [w_79_24]
    unfold fiF
    by_cases e : 0 < ((mN z.S.1 z.T i 6 1).length : Int)
    · rw [if_pos (decide_eq_true e)]
      by_cases e2 : l = k
      · rw [if_pos (by omega)]
        simp (disch := omega) only [e_79, w_79_0, w_79_1, w_79_2, w_79_3, w_79_4, w_79_5, w_79_6, w_79_7, w_79_8, w_79_9, w_79_10, w_79_11, w_79_12, w_79_13, w_79_14, w_79_15, w_79_16, w_79_17, w_79_18, w_79_19, w_79_20, w_79_21, w_79_22, w_79_23, w_79_25, w_79_26, w_79_27, w_79_28, w_79_29, w_79_30, w_79_31, w_79_32, w_79_33, w_79_34, w_79_35, w_79_36, w_79_37, w_79_38, w_79_39, w_79_40, w_79_41, w_79_42, w_79_43, w_79_44, w_79_45, w_79_46, w_79_47, w_79_48, w_79_49, w_79_50, w_79_51, w_79_52, w_79_53, w_79_54, w_79_55, w_79_56, w_79_57, w_79_58, w_79_59, w_79_60, w_79_61, getK, putK, ialK, iasK, aalK, aasK, alnK, zgt_u, zgt_a, Option.toList_some, Option.toList_none, List.cons_append, List.nil_append, List.map_cons, List.map_nil, List.replicate, ite_true, ite_false, if_true, if_false, List.getElem?_cons_zero, List.getElem?_cons_succ, List.set_cons_zero, List.set_cons_succ, true_and, and_true, beq_self_eq_true, zite, Int.toNat_natCast, if_pos, if_neg, zwr_id, zand, c0, rTx_rc c1, s_length c1, s_matchesAt c1 hT m1 o5 o4, e2]
      · rw [if_neg (by omega), show k - l - 1 = k - (l + 1) by omega]
        simp (disch := omega) only [e_79, w_79_0, w_79_1, w_79_2, w_79_3, w_79_4, w_79_5, w_79_6, w_79_7, w_79_8, w_79_9, w_79_10, w_79_11, w_79_12, w_79_13, w_79_14, w_79_15, w_79_16, w_79_17, w_79_18, w_79_19, w_79_20, w_79_21, w_79_22, w_79_23, w_79_25, w_79_26, w_79_27, w_79_28, w_79_29, w_79_30, w_79_31, w_79_32, w_79_33, w_79_34, w_79_35, w_79_36, w_79_37, w_79_38, w_79_39, w_79_40, w_79_41, w_79_42, w_79_43, w_79_44, w_79_45, w_79_46, w_79_47, w_79_48, w_79_49, w_79_50, w_79_51, w_79_52, w_79_53, w_79_54, w_79_55, w_79_56, w_79_57, w_79_58, w_79_59, w_79_60, w_79_61, getK, putK, ialK, iasK, aalK, aasK, alnK, zgt_u, zgt_a, Option.toList_some, Option.toList_none, List.cons_append, List.nil_append, List.map_cons, List.map_nil, List.replicate, ite_true, ite_false, if_true, if_false, List.getElem?_cons_zero, List.getElem?_cons_succ, List.set_cons_zero, List.set_cons_succ, true_and, and_true, beq_self_eq_true, zite, Int.toNat_natCast, if_pos, if_neg, zwr_id, zand, c0, rTx_rc c1, s_length c1, s_matchesAt c1 hT m1 o5 o4]
        exact ih (i + 1) (l + 1) _ (by omega) (by omega) (by omega) (by omega)
    · rw [if_neg (fun q => e (of_decide_eq_true q))]
      simp (disch := omega) only [e_79, w_79_0, w_79_1, w_79_2, w_79_3, w_79_4, w_79_5, w_79_6, w_79_7, w_79_8, w_79_9, w_79_10, w_79_11, w_79_12, w_79_13, w_79_14, w_79_15, w_79_16, w_79_17, w_79_18, w_79_19, w_79_20, w_79_21, w_79_22, w_79_23, w_79_25, w_79_26, w_79_27, w_79_28, w_79_29, w_79_30, w_79_31, w_79_32, w_79_33, w_79_34, w_79_35, w_79_36, w_79_37, w_79_38, w_79_39, w_79_40, w_79_41, w_79_42, w_79_43, w_79_44, w_79_45, w_79_46, w_79_47, w_79_48, w_79_49, w_79_50, w_79_51, w_79_52, w_79_53, w_79_54, w_79_55, w_79_56, w_79_57, w_79_58, w_79_59, w_79_60, w_79_61, getK, putK, ialK, iasK, aalK, aasK, alnK, zgt_u, zgt_a, Option.toList_some, Option.toList_none, List.cons_append, List.nil_append, List.map_cons, List.map_nil, List.replicate, ite_true, ite_false, if_true, if_false, List.getElem?_cons_zero, List.getElem?_cons_succ, List.set_cons_zero, List.set_cons_succ, true_and, and_true, beq_self_eq_true, zite, Int.toNat_natCast, if_pos, if_neg, zwr_id, zand, c0, rTx_rc c1, s_length c1, s_matchesAt c1 hT m1 o5 o4]
      exact ih (i + 1) l _ (by omega) (by omega) (by omega) (by omega)
theorem s5_find {k a : Int} (hC : rC h z c) (hz : okZ z) : zca sc 79 [.inr (.inl (some 0)), .inl k, .inl a] h Q = Q (some (.inl (fnS z k a))) h := by
  obtain ⟨c0, c1, c2, -⟩ := id hC
  have hT := hz.2.2.2.2.2.2
  have h00 := hT.1
  unfold fnS
  by_cases h1 : 0 ≤ k
  · by_cases h2 : 0 ≤ a
    · by_cases h3 : a ≤ 1
      · rw [if_pos ⟨h1, h2, h3⟩]
        by_cases h4 : a = 0
        · subst h4
          by_cases h5 : z.p = 0
          · rw [if_pos ⟨rfl, h5⟩]
            simp (disch := omega) only [e_79, w_79_0, w_79_1, w_79_2, w_79_3, w_79_4, w_79_5, w_79_6, w_79_7, w_79_8, w_79_9, w_79_10, w_79_11, w_79_12, w_79_13, w_79_14, w_79_15, w_79_16, w_79_17, w_79_18, w_79_19, w_79_20, w_79_21, w_79_22, w_79_23, w_79_25, w_79_26, w_79_27, w_79_28, w_79_29, w_79_30, w_79_31, w_79_32, w_79_33, w_79_34, w_79_35, w_79_36, w_79_37, w_79_38, w_79_39, w_79_40, w_79_41, w_79_42, w_79_43, w_79_44, w_79_45, w_79_46, w_79_47, w_79_48, w_79_49, w_79_50, w_79_51, w_79_52, w_79_53, w_79_54, w_79_55, w_79_56, w_79_57, w_79_58, w_79_59, w_79_60, w_79_61, getK, putK, ialK, iasK, aalK, aasK, alnK, zgt_u, zgt_a, Option.toList_some, Option.toList_none, List.cons_append, List.nil_append, List.map_cons, List.map_nil, List.replicate, ite_true, ite_false, if_true, if_false, List.getElem?_cons_zero, List.getElem?_cons_succ, List.set_cons_zero, List.set_cons_succ, true_and, and_true, beq_self_eq_true, zite, Int.toNat_natCast, if_pos, if_neg, zwr_id, zand, c0, h5]
          · rw [if_neg (fun q => h5 q.2), if_pos rfl]
            simp (disch := omega) only [e_79, w_79_0, w_79_1, w_79_2, w_79_3, w_79_4, w_79_5, w_79_6, w_79_7, w_79_8, w_79_9, w_79_10, w_79_11, w_79_12, w_79_13, w_79_14, w_79_15, w_79_16, w_79_17, w_79_18, w_79_19, w_79_20, w_79_21, w_79_22, w_79_23, w_79_25, w_79_26, w_79_27, w_79_28, w_79_29, w_79_30, w_79_31, w_79_32, w_79_33, w_79_34, w_79_35, w_79_36, w_79_37, w_79_38, w_79_39, w_79_40, w_79_41, w_79_42, w_79_43, w_79_44, w_79_45, w_79_46, w_79_47, w_79_48, w_79_49, w_79_50, w_79_51, w_79_52, w_79_53, w_79_54, w_79_55, w_79_56, w_79_57, w_79_58, w_79_59, w_79_60, w_79_61, getK, putK, ialK, iasK, aalK, aasK, alnK, zgt_u, zgt_a, Option.toList_some, Option.toList_none, List.cons_append, List.nil_append, List.map_cons, List.map_nil, List.replicate, ite_true, ite_false, if_true, if_false, List.getElem?_cons_zero, List.getElem?_cons_succ, List.set_cons_zero, List.set_cons_succ, true_and, and_true, beq_self_eq_true, zite, Int.toNat_natCast, if_pos, if_neg, zwr_id, zand, c0, rDt_rc c2, s_live c2]
            rw [lp_find0 hC hz _ z.n.toNat 0 0 _ (by omega) (by omega) (by omega) (by omega), Int.sub_zero]
        · rw [if_neg (fun q => h4 q.1), if_neg h4]
          have h4 : a = 1 := by omega
          subst h4
          simp (disch := omega) only [e_79, w_79_0, w_79_1, w_79_2, w_79_3, w_79_4, w_79_5, w_79_6, w_79_7, w_79_8, w_79_9, w_79_10, w_79_11, w_79_12, w_79_13, w_79_14, w_79_15, w_79_16, w_79_17, w_79_18, w_79_19, w_79_20, w_79_21, w_79_22, w_79_23, w_79_25, w_79_26, w_79_27, w_79_28, w_79_29, w_79_30, w_79_31, w_79_32, w_79_33, w_79_34, w_79_35, w_79_36, w_79_37, w_79_38, w_79_39, w_79_40, w_79_41, w_79_42, w_79_43, w_79_44, w_79_45, w_79_46, w_79_47, w_79_48, w_79_49, w_79_50, w_79_51, w_79_52, w_79_53, w_79_54, w_79_55, w_79_56, w_79_57, w_79_58, w_79_59, w_79_60, w_79_61, getK, putK, ialK, iasK, aalK, aasK, alnK, zgt_u, zgt_a, Option.toList_some, Option.toList_none, List.cons_append, List.nil_append, List.map_cons, List.map_nil, List.replicate, ite_true, ite_false, if_true, if_false, List.getElem?_cons_zero, List.getElem?_cons_succ, List.set_cons_zero, List.set_cons_succ, true_and, and_true, beq_self_eq_true, zite, Int.toNat_natCast, if_pos, if_neg, zwr_id, zand, c0, rDt_rc c2, s_live c2]
          rw [lp_find1 hC hz z.n.toNat 0 0 _ (by omega) (by omega) (by omega) (by omega), Int.sub_zero]
      · rw [if_neg (fun q => h3 q.2.2)]
        simp (disch := omega) only [e_79, w_79_0, w_79_1, w_79_2, w_79_3, w_79_4, w_79_5, w_79_6, w_79_7, w_79_8, w_79_9, w_79_10, w_79_11, w_79_12, w_79_13, w_79_14, w_79_15, w_79_16, w_79_17, w_79_18, w_79_19, w_79_20, w_79_21, w_79_22, w_79_23, w_79_25, w_79_26, w_79_27, w_79_28, w_79_29, w_79_30, w_79_31, w_79_32, w_79_33, w_79_34, w_79_35, w_79_36, w_79_37, w_79_38, w_79_39, w_79_40, w_79_41, w_79_42, w_79_43, w_79_44, w_79_45, w_79_46, w_79_47, w_79_48, w_79_49, w_79_50, w_79_51, w_79_52, w_79_53, w_79_54, w_79_55, w_79_56, w_79_57, w_79_58, w_79_59, w_79_60, w_79_61, getK, putK, ialK, iasK, aalK, aasK, alnK, zgt_u, zgt_a, Option.toList_some, Option.toList_none, List.cons_append, List.nil_append, List.map_cons, List.map_nil, List.replicate, ite_true, ite_false, if_true, if_false, List.getElem?_cons_zero, List.getElem?_cons_succ, List.set_cons_zero, List.set_cons_succ, true_and, and_true, beq_self_eq_true, zite, Int.toNat_natCast, if_pos, if_neg, zwr_id, zand, c0]
    · rw [if_neg (fun q => h2 q.2.1)]
      simp (disch := omega) only [e_79, w_79_0, w_79_1, w_79_2, w_79_3, w_79_4, w_79_5, w_79_6, w_79_7, w_79_8, w_79_9, w_79_10, w_79_11, w_79_12, w_79_13, w_79_14, w_79_15, w_79_16, w_79_17, w_79_18, w_79_19, w_79_20, w_79_21, w_79_22, w_79_23, w_79_25, w_79_26, w_79_27, w_79_28, w_79_29, w_79_30, w_79_31, w_79_32, w_79_33, w_79_34, w_79_35, w_79_36, w_79_37, w_79_38, w_79_39, w_79_40, w_79_41, w_79_42, w_79_43, w_79_44, w_79_45, w_79_46, w_79_47, w_79_48, w_79_49, w_79_50, w_79_51, w_79_52, w_79_53, w_79_54, w_79_55, w_79_56, w_79_57, w_79_58, w_79_59, w_79_60, w_79_61, getK, putK, ialK, iasK, aalK, aasK, alnK, zgt_u, zgt_a, Option.toList_some, Option.toList_none, List.cons_append, List.nil_append, List.map_cons, List.map_nil, List.replicate, ite_true, ite_false, if_true, if_false, List.getElem?_cons_zero, List.getElem?_cons_succ, List.set_cons_zero, List.set_cons_succ, true_and, and_true, beq_self_eq_true, zite, Int.toNat_natCast, if_pos, if_neg, zwr_id, zand, c0]
  · rw [if_neg (fun q => h1 q.1)]
    simp (disch := omega) only [e_79, w_79_0, w_79_1, w_79_2, w_79_3, w_79_4, w_79_5, w_79_6, w_79_7, w_79_8, w_79_9, w_79_10, w_79_11, w_79_12, w_79_13, w_79_14, w_79_15, w_79_16, w_79_17, w_79_18, w_79_19, w_79_20, w_79_21, w_79_22, w_79_23, w_79_25, w_79_26, w_79_27, w_79_28, w_79_29, w_79_30, w_79_31, w_79_32, w_79_33, w_79_34, w_79_35, w_79_36, w_79_37, w_79_38, w_79_39, w_79_40, w_79_41, w_79_42, w_79_43, w_79_44, w_79_45, w_79_46, w_79_47, w_79_48, w_79_49, w_79_50, w_79_51, w_79_52, w_79_53, w_79_54, w_79_55, w_79_56, w_79_57, w_79_58, w_79_59, w_79_60, w_79_61, getK, putK, ialK, iasK, aalK, aasK, alnK, zgt_u, zgt_a, Option.toList_some, Option.toList_none, List.cons_append, List.nil_append, List.map_cons, List.map_nil, List.replicate, ite_true, ite_false, if_true, if_false, List.getElem?_cons_zero, List.getElem?_cons_succ, List.set_cons_zero, List.set_cons_succ, true_and, and_true, beq_self_eq_true, zite, Int.toNat_natCast, if_pos, if_neg, zwr_id, zand, c0]
end
