/-! A WORD TAKEN AWAY; DICTIONARIES COPIED AND MADE -/
theorem gI_at {L : List zI} {k : Nat} {x : zI} (h : L[k]? = some x) : gI L k = x := by
  unfold gI
  rw [if_pos (by omega), List.getD_eq_getElem?_getD, Int.toNat_natCast, h]
  rfl
theorem split_at {α : Type} {L : List α} {k : Nat} {x : α} (h : L[k]? = some x) : L = L.take k ++ x :: L.drop (k + 1) ∧ (L.take k).length = k ∧ L.eraseIdx k = L.take k ++ L.drop (k + 1) := by
  obtain ⟨hk, he⟩ := List.getElem?_eq_some_iff.mp h
  refine ⟨?_, by simp; omega, List.eraseIdx_eq_take_drop_succ _ _⟩
  rw [← he, List.getElem_cons_drop, List.take_append_drop]
section
variable {sc : Nat × (Int → Int)} {h : zH} {Q : Option zV → zH → Prop} {b : Nat} {S : zDt}
theorem s_drop {k : Nat} {x : zI} (hD : rDt h b S) (hok : okDt S) (hx : S.1[k]? = some x) (hQ : ∀ h', rDt h' b (droS S k x) → fr h h' b 13 → Q (some (.inl (droR S k))) h') : zca sc 7 [.inr (.inl (some b)), .inl k] h Q := by
  obtain ⟨a1, a2, a3, a4, a5, a6, a7, a8, a9, a10, a11⟩ := id hok
  obtain ⟨h0, hI, ⟨L0, f1, f2, f3⟩, ⟨L1, i1, i2, i3⟩⟩ := hD
  have hk := (List.getElem?_eq_some_iff.mp hx).1
  have hgI := gI_at hx
  have hox := a1 x (List.mem_of_getElem? hx)
  have hlen := i3.length_eq
  have hlen0 := f3.length_eq
  have hleg := leg_fam i2 i3
  obtain ⟨l1, l2, l3, l4⟩ := lgM_ok a3 a9 (by omega)
  simp (disch := omega) only [e_7, w_7_0, w_7_1, w_7_2, w_7_3, w_7_4, w_7_5, w_7_6, w_7_7, w_7_8, w_7_9, w_7_10, w_7_11, w_7_12, w_7_13, w_7_14, w_7_15, w_7_16, w_7_17, w_7_18, w_7_19, w_7_20, w_7_21, w_7_22, w_7_23, w_7_24, w_7_25, w_7_26, w_7_27, w_7_28, w_7_29, w_7_30, w_7_31, w_7_32, w_7_33, w_7_34, w_7_35, w_7_36, w_7_37, w_7_38, w_7_39, w_7_40, w_7_41, w_7_42, w_7_43, w_7_44, w_7_45, w_7_46, w_7_47, w_7_48, w_7_49, w_7_50, w_7_51, getK, putK, ialK, iasK, aalK, aasK, alnK, zgt_u, zgt_a, Option.toList_some, Option.toList_none, List.cons_append, List.nil_append, List.map_cons, List.map_nil, List.replicate, ite_true, ite_false, if_true, if_false, List.getElem?_cons_zero, List.getElem?_cons_succ, List.set_cons_zero, List.set_cons_succ, true_and, and_true, beq_self_eq_true, zite, Int.toNat_natCast, if_pos, if_neg, zwr_id, zand, h0, rIt_rc hI, rIt_rc i1, s_codeAt2 hI (by omega) (i := (k : Int)) (by omega) (by omega), s_weightAt2 hI (by omega) (i := (k : Int)) (by omega) (by omega), hgI]
  refine s_put i1 i2 (by omega) (fun y hy => by rw [hleg]; exact cti_nil.mp ((cti_perm i3).trans l3) y hy) (fun h2 L2 k1 k2 k3 k4 => ?_)
  rw [hleg] at k3 ⊢
  have hp2 : L2.Perm (ptM S.2.2.1 x.2.1 x.2.2) := by
    refine k3.trans ?_
    unfold ptM
    exact (List.Perm.cons _ (i3.map _)).trans (List.perm_append_singleton _ _).symm
  obtain ⟨p1, p2, p3⟩ := ptM_ok a3 a9 (by omega) hox.2.2.1 hox.2.2.2
  have hlen2 := hp2.length_eq
  have h02 : zgt h2 b = _ := (k4.2.2 b (by omega)).trans h0
  have hI2 := rIt_fr hI k4 (by omega)
  have f12 := rIt_fr f1 k4 (by omega)
  simp (disch := omega) only [e_7, w_7_0, w_7_1, w_7_2, w_7_3, w_7_4, w_7_5, w_7_6, w_7_7, w_7_8, w_7_9, w_7_10, w_7_11, w_7_12, w_7_13, w_7_14, w_7_15, w_7_16, w_7_17, w_7_18, w_7_19, w_7_20, getK, putK, ialK, iasK, aalK, aasK, alnK, zgt_u, zgt_a, Option.toList_some, Option.toList_none, List.cons_append, List.nil_append, List.map_cons, List.map_nil, List.replicate, ite_true, ite_false, if_true, if_false, List.getElem?_cons_zero, List.getElem?_cons_succ, List.set_cons_zero, List.set_cons_succ, true_and, and_true, beq_self_eq_true, zite, Int.toNat_natCast, if_pos, if_neg, zwr_id, zand, h02, rIt_rc k1, s_lettersIn k1 (show L2.length ≤ 48 by omega) (okIs_perm hp2.symm p1)]
  rw [lti_perm hp2]
  generalize hh : zuH h2 b _ = h3
  have hf3 : fr h2 h3 b 1 := by
    rw [← hh]
    exact fr_u fr_rf (Nat.le_refl _) (by omega)
  have h03 : zgt h3 b = .inl (0, [.inr (.inl (some (b + 1))), .inr (.inl (some (b + 5))), .inr (.inl (some (b + 9))), .inl (drp S k x).2.2.2.1, .inl S.2.2.2.2]) := by
    rw [← hh]
    simp (disch := omega) only [zgt_u, zgt_a, if_pos, if_neg, if_true, if_false, ite_true, ite_false]
    rfl
  have hI3 := rIt_fr hI2 hf3 (by omega)
  have f13 := rIt_fr f12 hf3 (by omega)
  have k13 := rIt_fr k1 hf3 (by omega)
  obtain ⟨s1, s2, s3⟩ := split_at hx
  simp (disch := omega) only [e_7, w_7_0, w_7_1, w_7_2, w_7_3, w_7_4, w_7_5, w_7_6, w_7_7, w_7_8, w_7_9, w_7_10, w_7_11, w_7_12, w_7_13, w_7_14, w_7_15, w_7_16, w_7_17, w_7_18, w_7_19, w_7_20, w_7_21, w_7_22, w_7_23, w_7_24, getK, putK, ialK, iasK, aalK, aasK, alnK, zgt_u, zgt_a, Option.toList_some, Option.toList_none, List.cons_append, List.nil_append, List.map_cons, List.map_nil, List.replicate, ite_true, ite_false, if_true, if_false, List.getElem?_cons_zero, List.getElem?_cons_succ, List.set_cons_zero, List.set_cons_succ, true_and, and_true, beq_self_eq_true, zite, Int.toNat_natCast, if_pos, if_neg, zwr_id, zand, h03, rIt_rc hI3]
  rw [s1] at hI3
  have hI3' := hI3
  have e2 : (k : Int) = ((S.1.take k).length : Nat) := by omega
  rw [e2]
  refine s_takeOut hI3 (by rw [← s1]; omega) (fun h4 q1 q2 => ?_)
  rw [← s3] at q1
  have h04 : zgt h4 b = .inl (0, [.inr (.inl (some (b + 1))), .inr (.inl (some (b + 5))), .inr (.inl (some (b + 9))), .inl (drp S k x).2.2.2.1, .inl S.2.2.2.2]) := (q2.2.2 b (by omega)).trans h03
  have f14 := rIt_fr f13 q2 (by omega)
  have k14 := rIt_fr k13 q2 (by omega)
  have hfr : fr h h4 b 13 := fr_tr (fr_tr (fr_wd k4 (by omega) (by omega)) (fr_wd hf3 (by omega) (by omega))) (fr_wd q2 (by omega) (by omega))
  have hrc0 : ∀ as, zrecv h4 0 (.inr (.inl (some b)) :: as) = true := fun as => zrc h04
  have e1 := len_eraseIdx hk
  by_cases hc : 2 * (S.2.2.1.length + 1) ≤ S.2.1.length
  · have hD4 : rDt h4 b (drp S k x) := ⟨h04, q1, ⟨L0, f14, f2, f3⟩, ⟨L2, k14, k2, hp2⟩⟩
    have := hQ h4 (by unfold droS; rw [if_pos hc]; exact hD4) hfr
    unfold droR at this
    rw [if_pos hc] at this
    simp (disch := omega) only [e_7, w_7_0, w_7_1, w_7_2, w_7_3, w_7_4, w_7_5, w_7_6, w_7_7, w_7_8, w_7_9, w_7_10, w_7_11, w_7_12, w_7_13, w_7_14, w_7_15, w_7_16, w_7_17, w_7_18, w_7_19, w_7_20, w_7_21, w_7_22, w_7_23, w_7_24, w_7_25, w_7_26, w_7_27, w_7_28, w_7_29, w_7_30, w_7_31, w_7_32, w_7_33, w_7_34, w_7_35, w_7_36, w_7_37, w_7_38, w_7_39, w_7_40, w_7_41, w_7_42, w_7_43, w_7_44, w_7_45, w_7_46, w_7_47, w_7_48, w_7_49, w_7_50, w_7_51, getK, putK, ialK, iasK, aalK, aasK, alnK, zgt_u, zgt_a, Option.toList_some, Option.toList_none, List.cons_append, List.nil_append, List.map_cons, List.map_nil, List.replicate, ite_true, ite_false, if_true, if_false, List.getElem?_cons_zero, List.getElem?_cons_succ, List.set_cons_zero, List.set_cons_succ, true_and, and_true, beq_self_eq_true, zite, Int.toNat_natCast, if_pos, if_neg, zwr_id, zand, h04, rIt_rc k14, s_size2 k14, rIt_rc f14, s_size2 f14]
    exact this
  · simp (disch := omega) only [e_7, w_7_0, w_7_1, w_7_2, w_7_3, w_7_4, w_7_5, w_7_6, w_7_7, w_7_8, w_7_9, w_7_10, w_7_11, w_7_12, w_7_13, w_7_14, w_7_15, w_7_16, w_7_17, w_7_18, w_7_19, w_7_20, w_7_21, w_7_22, w_7_23, w_7_24, w_7_25, w_7_26, w_7_27, w_7_28, w_7_29, w_7_30, w_7_31, w_7_32, w_7_33, w_7_34, w_7_35, w_7_36, w_7_37, w_7_38, w_7_39, w_7_40, w_7_41, w_7_42, w_7_43, w_7_44, w_7_45, w_7_46, w_7_47, w_7_48, w_7_49, w_7_50, w_7_51, getK, putK, ialK, iasK, aalK, aasK, alnK, zgt_u, zgt_a, Option.toList_some, Option.toList_none, List.cons_append, List.nil_append, List.map_cons, List.map_nil, List.replicate, ite_true, ite_false, if_true, if_false, List.getElem?_cons_zero, List.getElem?_cons_succ, List.set_cons_zero, List.set_cons_succ, true_and, and_true, beq_self_eq_true, zite, Int.toNat_natCast, if_pos, if_neg, zwr_id, zand, h04, rIt_rc k14, s_size2 k14, rIt_rc f14, s_size2 f14, hrc0]
    have hsub : ∀ y ∈ S.1.eraseIdx k, y ∈ S.1 := fun y hy => (List.eraseIdx_sublist _ _).mem hy
    refine s_renew (S := drp S k x) h04 q1 f14 k14 (okIs_sub a1 hsub) (by show (S.1.eraseIdx k).length ≤ 24; omega) (fun h5 w1 w2 => ?_)
    have := hQ h5 (by unfold droS; rw [if_neg hc]; exact w1) (fr_tr hfr w2)
    unfold droR at this
    rw [if_neg hc] at this
    obtain ⟨w10, w11, -, -⟩ := w1
    have w11 : rIt h5 (b + 1) (S.1.eraseIdx k) := w11
    by_cases hc2 : S.1.length = 1
    · rw [if_pos hc2] at this
      simp (disch := omega) only [e_7, w_7_0, w_7_1, w_7_2, w_7_3, w_7_4, w_7_5, w_7_6, w_7_7, w_7_8, w_7_9, w_7_10, w_7_11, w_7_12, w_7_13, w_7_14, w_7_15, w_7_16, w_7_17, w_7_18, w_7_19, w_7_20, w_7_21, w_7_22, w_7_23, w_7_24, w_7_25, w_7_26, w_7_27, w_7_28, w_7_29, w_7_30, w_7_31, w_7_32, w_7_33, w_7_34, w_7_35, w_7_36, w_7_37, w_7_38, w_7_39, w_7_40, w_7_41, w_7_42, w_7_43, w_7_44, w_7_45, w_7_46, w_7_47, w_7_48, w_7_49, w_7_50, w_7_51, getK, putK, ialK, iasK, aalK, aasK, alnK, zgt_u, zgt_a, Option.toList_some, Option.toList_none, List.cons_append, List.nil_append, List.map_cons, List.map_nil, List.replicate, ite_true, ite_false, if_true, if_false, List.getElem?_cons_zero, List.getElem?_cons_succ, List.set_cons_zero, List.set_cons_succ, true_and, and_true, beq_self_eq_true, zite, Int.toNat_natCast, if_pos, if_neg, zwr_id, zand, w10, rIt_rc w11, s_size2 w11]
      exact this
    · rw [if_neg hc2] at this
      rw [show ((S.1.length : Int) - 1) = ((S.1.eraseIdx k).length : Nat) by omega] at this
      have hb := @lgf_b ((S.1.eraseIdx k).length : Int)
      simp (disch := omega) only [e_7, w_7_0, w_7_1, w_7_2, w_7_3, w_7_4, w_7_5, w_7_6, w_7_7, w_7_8, w_7_9, w_7_10, w_7_11, w_7_12, w_7_13, w_7_14, w_7_15, w_7_16, w_7_17, w_7_18, w_7_19, w_7_20, w_7_21, w_7_22, w_7_23, w_7_24, w_7_25, w_7_26, w_7_27, w_7_28, w_7_29, w_7_30, w_7_31, w_7_32, w_7_33, w_7_34, w_7_35, w_7_36, w_7_37, w_7_38, w_7_39, w_7_40, w_7_41, w_7_42, w_7_43, w_7_44, w_7_45, w_7_46, w_7_47, w_7_48, w_7_49, w_7_50, w_7_51, getK, putK, ialK, iasK, aalK, aasK, alnK, zgt_u, zgt_a, Option.toList_some, Option.toList_none, List.cons_append, List.nil_append, List.map_cons, List.map_nil, List.replicate, ite_true, ite_false, if_true, if_false, List.getElem?_cons_zero, List.getElem?_cons_succ, List.set_cons_zero, List.set_cons_succ, true_and, and_true, beq_self_eq_true, zite, Int.toNat_natCast, if_pos, if_neg, zwr_id, zand, w10, rIt_rc w11, s_size2 w11, lp_lgf _ (show ((S.1.eraseIdx k).length : Int) ≤ 48 by omega)]
      exact this
/-- a dictionary copied over another; of the other only its shape counts -/
def shI (h : zH) (b : Nat) : Prop := ∃ L, rIt h b L
def shD (h : zH) (b : Nat) : Prop := ∃ cs rb, zgt h b = .inl (0, [.inr (.inl (some (b + 1))), .inr (.inl (some (b + 5))), .inr (.inl (some (b + 9))), .inl cs, .inl rb]) ∧ shI h (b + 1) ∧ shI h (b + 5) ∧ shI h (b + 9)
theorem shD_of (hD : rDt h b S) : shD h b := ⟨_, _, hD.1, ⟨_, hD.2.1⟩, ⟨_, hD.2.2.1.choose_spec.1⟩, ⟨_, hD.2.2.2.choose_spec.1⟩⟩
theorem s_copy0 {b2 : Nat} (hd : b2 + 13 ≤ b ∨ b + 13 ≤ b2) (hs : shD h b) (hD : rDt h b2 S) (hok : okDt S) (hQ : ∀ h', rDt h' b S → fr h h' b 13 → Q none h') : zca sc 5 [.inr (.inl (some b)), .inr (.inl (some b2))] h Q := by
  obtain ⟨a1, a2, a3, a4, a5, a6, a7, a8, a9, a10, a11⟩ := id hok
  obtain ⟨cs, rb, g0, ⟨J, gI⟩, ⟨J0, gF⟩, ⟨J1, gG⟩⟩ := hs
  obtain ⟨h0, hI, ⟨L0, f1, f2, f3⟩, ⟨L1, i1, i2, i3⟩⟩ := hD
  have hlen := i3.length_eq
  have hlen0 := f3.length_eq
  simp (disch := omega) only [e_5, w_5_0, w_5_1, w_5_2, w_5_3, w_5_4, w_5_5, w_5_6, w_5_7, w_5_8, w_5_9, w_5_10, w_5_11, w_5_12, w_5_13, w_5_14, w_5_15, w_5_16, w_5_17, w_5_18, w_5_19, w_5_20, w_5_21, w_5_22, w_5_23, getK, putK, ialK, iasK, aalK, aasK, alnK, zgt_u, zgt_a, Option.toList_some, Option.toList_none, List.cons_append, List.nil_append, List.map_cons, List.map_nil, List.replicate, ite_true, ite_false, if_true, if_false, List.getElem?_cons_zero, List.getElem?_cons_succ, List.set_cons_zero, List.set_cons_succ, true_and, and_true, beq_self_eq_true, zite, Int.toNat_natCast, if_pos, if_neg, zwr_id, zand, h0, g0, rIt_rc gI]
  refine s_copy2 (by omega) gI hI (by omega) (fun h1 j1 j2 => ?_)
  have h01 : zgt h1 b2 = _ := (j2.2.2 b2 (by omega)).trans h0
  have g01 : zgt h1 b = _ := (j2.2.2 b (by omega)).trans g0
  have gF1 := rIt_fr gF j2 (by omega)
  have f11 := rIt_fr f1 j2 (by omega)
  simp (disch := omega) only [e_5, w_5_0, w_5_1, w_5_2, w_5_3, w_5_4, w_5_5, w_5_6, w_5_7, w_5_8, w_5_9, w_5_10, w_5_11, w_5_12, w_5_13, w_5_14, w_5_15, w_5_16, w_5_17, w_5_18, w_5_19, w_5_20, w_5_21, w_5_22, w_5_23, getK, putK, ialK, iasK, aalK, aasK, alnK, zgt_u, zgt_a, Option.toList_some, Option.toList_none, List.cons_append, List.nil_append, List.map_cons, List.map_nil, List.replicate, ite_true, ite_false, if_true, if_false, List.getElem?_cons_zero, List.getElem?_cons_succ, List.set_cons_zero, List.set_cons_succ, true_and, and_true, beq_self_eq_true, zite, Int.toNat_natCast, if_pos, if_neg, zwr_id, zand, h01, g01, rIt_rc gF1]
  refine s_copy2 (by omega) gF1 f11 (by omega) (fun h2 k1 k2 => ?_)
  have h02 : zgt h2 b2 = _ := (k2.2.2 b2 (by omega)).trans h01
  have g02 : zgt h2 b = _ := (k2.2.2 b (by omega)).trans g01
  have gG2 := rIt_fr (rIt_fr gG j2 (by omega)) k2 (by omega)
  have i12 := rIt_fr (rIt_fr i1 j2 (by omega)) k2 (by omega)
  simp (disch := omega) only [e_5, w_5_0, w_5_1, w_5_2, w_5_3, w_5_4, w_5_5, w_5_6, w_5_7, w_5_8, w_5_9, w_5_10, w_5_11, w_5_12, w_5_13, w_5_14, w_5_15, w_5_16, w_5_17, w_5_18, w_5_19, w_5_20, w_5_21, w_5_22, w_5_23, getK, putK, ialK, iasK, aalK, aasK, alnK, zgt_u, zgt_a, Option.toList_some, Option.toList_none, List.cons_append, List.nil_append, List.map_cons, List.map_nil, List.replicate, ite_true, ite_false, if_true, if_false, List.getElem?_cons_zero, List.getElem?_cons_succ, List.set_cons_zero, List.set_cons_succ, true_and, and_true, beq_self_eq_true, zite, Int.toNat_natCast, if_pos, if_neg, zwr_id, zand, h02, g02, rIt_rc gG2]
  refine s_copy2 (by omega) gG2 i12 (by omega) (fun h3 l1 l2 => ?_)
  have h03 : zgt h3 b2 = _ := (l2.2.2 b2 (by omega)).trans h02
  have g03 : zgt h3 b = _ := (l2.2.2 b (by omega)).trans g02
  simp (disch := omega) only [e_5, w_5_0, w_5_1, w_5_2, w_5_3, w_5_4, w_5_5, w_5_6, w_5_7, w_5_8, w_5_9, w_5_10, w_5_11, w_5_12, w_5_13, w_5_14, w_5_15, w_5_16, w_5_17, w_5_18, w_5_19, w_5_20, w_5_21, w_5_22, w_5_23, getK, putK, ialK, iasK, aalK, aasK, alnK, zgt_u, zgt_a, Option.toList_some, Option.toList_none, List.cons_append, List.nil_append, List.map_cons, List.map_nil, List.replicate, ite_true, ite_false, if_true, if_false, List.getElem?_cons_zero, List.getElem?_cons_succ, List.set_cons_zero, List.set_cons_succ, true_and, and_true, beq_self_eq_true, zite, Int.toNat_natCast, if_pos, if_neg, zwr_id, zand, h03, g03, show b2 ≠ b by omega]
  generalize hh : zuH _ b _ = h4
  have hf4 : fr h3 h4 b 1 := by
    rw [← hh]
    exact fr_u (fr_u fr_rf (Nat.le_refl _) (by omega)) (Nat.le_refl _) (by omega)
  refine hQ h4 ⟨?_, ?_, ⟨L0, ?_, f2, f3⟩, ⟨L1, ?_, i2, i3⟩⟩ (fr_tr (fr_tr (fr_tr (fr_wd j2 (by omega) (by omega)) (fr_wd k2 (by omega) (by omega))) (fr_wd l2 (by omega) (by omega))) (fr_wd hf4 (by omega) (by omega)))
  · rw [← hh]
    simp (disch := omega) only [zgt_u, zgt_a, if_pos, if_neg, if_true, if_false, ite_true, ite_false]
  · exact rIt_fr (rIt_fr (rIt_fr j1 k2 (by omega)) l2 (by omega)) hf4 (by omega)
  · exact rIt_fr (rIt_fr k1 l2 (by omega)) hf4 (by omega)
  · exact rIt_fr l1 hf4 (by omega)
end
