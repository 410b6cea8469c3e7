/-! A DICTIONARY CHANGED -/
section
variable {sc : Nat × (Int → Int)} {h : zH} {Q : Option zV → zH → Prop} {b : Nat} {S : zDt}
theorem leg_fam {L M : List zI} (hs : srtI L) (hp : L.Perm M) : leg L 7 0 = lgM M := by
  rw [leg_lec hs]; exact lec_perm hp 7 0
theorem s_enter {c w : Int} (hD : rDt h b S) (hok : okDt S) (hl : S.1.length < 24) (hc : wd c) (hw : -99 ≤ w ∧ w ≤ 99) (hn : ∀ y ∈ S.1, y.2.1 ≠ c) (hQ : ∀ h', rDt h' b (entS S c w) → fr h h' b 13 → Q (some (.inl (lgM S.2.1))) h') : zca sc 6 [.inr (.inl (some b)), .inl c, .inl w] h Q := by
  obtain ⟨a1, a2, a3, a4, a5, a6, a7, a8, a9, a10, a11⟩ := hok
  obtain ⟨h0, hI, ⟨L0, i1, i2, i3⟩, hF1⟩ := hD
  simp (disch := omega) only [e_6, w_6_0, w_6_1, w_6_2, w_6_3, w_6_4, w_6_5, w_6_6, w_6_7, w_6_8, w_6_9, w_6_10, w_6_11, w_6_12, w_6_13, w_6_14, w_6_15, w_6_16, w_6_17, w_6_18, w_6_19, w_6_20, w_6_21, w_6_22, getK, putK, ialK, iasK, aalK, aasK, alnK, zgt_u, zgt_a, Option.toList_some, Option.toList_none, List.cons_append, List.nil_append, List.map_cons, List.map_nil, List.replicate, ite_true, ite_false, if_true, if_false, List.getElem?_cons_zero, List.getElem?_cons_succ, List.set_cons_zero, List.set_cons_succ, true_and, and_true, beq_self_eq_true, zite, Int.toNat_natCast, if_pos, if_neg, zwr_id, zand, h0, rIt_rc hI]
  refine s_add (x := (0, c, w)) hI (by omega) (srtL_I a4) (fun h1 L1 j1 j2 j3 j4 => ?_)
  have e1 : L1 = insL (0, c, w) S.1 := srt_eq j2 (srtL_I (insL_srt rfl a4 hn)) (j3.trans (insL_perm _ _).symm)
  subst e1
  have h0' : zgt h1 b = _ := (j4.2.2 b (by omega)).trans h0
  have i1' := rIt_fr i1 j4 (by omega)
  have hF1' := rFa_fr hF1 j4 (by omega)
  have hlen := i3.length_eq
  have hleg := leg_fam i2 i3
  obtain ⟨l1, l2, l3, l4⟩ := lgM_ok a2 a8 (by omega)
  simp (disch := omega) only [e_6, w_6_0, w_6_1, w_6_2, w_6_3, w_6_4, w_6_5, w_6_6, w_6_7, w_6_8, w_6_9, w_6_10, w_6_11, w_6_12, w_6_13, w_6_14, w_6_15, w_6_16, w_6_17, w_6_18, w_6_19, w_6_20, w_6_21, w_6_22, getK, putK, ialK, iasK, aalK, aasK, alnK, zgt_u, zgt_a, Option.toList_some, Option.toList_none, List.cons_append, List.nil_append, List.map_cons, List.map_nil, List.replicate, ite_true, ite_false, if_true, if_false, List.getElem?_cons_zero, List.getElem?_cons_succ, List.set_cons_zero, List.set_cons_succ, true_and, and_true, beq_self_eq_true, zite, Int.toNat_natCast, if_pos, if_neg, zwr_id, zand, h0', rIt_rc i1']
  refine s_put i1' i2 (by omega) (fun x hx => by rw [hleg]; exact cti_nil.mp ((cti_perm i3).trans l3) x hx) (fun h2 L2 k1 k2 k3 k4 => ?_)
  rw [hleg] at k3 ⊢
  have hp2 : L2.Perm (ptM S.2.1 c w) := by
    refine k3.trans ?_
    unfold ptM
    exact (List.Perm.cons _ (i3.map _)).trans (List.perm_append_singleton _ _).symm
  obtain ⟨p1, p2, p3⟩ := ptM_ok a2 a8 (by omega) hc hw
  have hlen2 := hp2.length_eq
  have h0'' : zgt h2 b = _ := (k4.2.2 b (by omega)).trans h0'
  simp (disch := omega) only [e_6, w_6_0, w_6_1, w_6_2, w_6_3, w_6_4, w_6_5, w_6_6, w_6_7, w_6_8, w_6_9, w_6_10, w_6_11, w_6_12, w_6_13, w_6_14, w_6_15, w_6_16, w_6_17, w_6_18, w_6_19, w_6_20, w_6_21, w_6_22, getK, putK, ialK, iasK, aalK, aasK, alnK, zgt_u, zgt_a, Option.toList_some, Option.toList_none, List.cons_append, List.nil_append, List.map_cons, List.map_nil, List.replicate, ite_true, ite_false, if_true, if_false, List.getElem?_cons_zero, List.getElem?_cons_succ, List.set_cons_zero, List.set_cons_succ, true_and, and_true, beq_self_eq_true, zite, Int.toNat_natCast, if_pos, if_neg, zwr_id, zand, h0'', rIt_rc k1, s_lettersIn k1 (show L2.length ≤ 48 by omega) (okIs_perm hp2.symm p1)]
  rw [lti_perm hp2]
  refine hQ _ ⟨?_, ?_, ?_, ?_⟩ (fr_u (fr_tr (fr_wd j4 (by omega) (by omega)) (fr_wd k4 (by omega) (by omega))) (by omega) (by omega))
  · simp (disch := omega) only [zgt_u, zgt_a, if_pos, if_neg, if_true, if_false, ite_true, ite_false]
    rfl
  · exact rIt_fr (rIt_fr j1 k4 (by omega)) (fr_u (n := 1) fr_rf (Nat.le_refl _) (by omega)) (by omega)
  · exact ⟨L2, rIt_fr k1 (fr_u (n := 1) fr_rf (Nat.le_refl _) (by omega)) (by omega), k2, hp2⟩
  · exact rFa_fr (rFa_fr hF1' k4 (by omega)) (fr_u (n := 1) fr_rf (Nat.le_refl _) (by omega)) (by omega)
theorem lp_renew {g : Int} (l2 : Option zV) : ∀ (T : List zI) (h : zH) (P L0 : List zI) (cs rb : Int), P ++ T = S.1 → S.1.length ≤ 24 → zgt h b = .inl (0, [.inr (.inl (some (b + 1))), .inr (.inl (some (b + 5))), .inr (.inl (some (b + 9))), .inl cs, .inl rb]) → rIt h (b + 1) S.1 → rIt h (b + 5) L0 → srtI L0 → L0.Perm (P.map (fun x => (g, x.2))) → (∀ h' L', zgt h' b = .inl (0, [.inr (.inl (some (b + 1))), .inr (.inl (some (b + 5))), .inr (.inl (some (b + 9))), .inl cs, .inl rb]) → rIt h' (b + 1) S.1 → rIt h' (b + 5) L' → srtI L' → L'.Perm (S.1.map (fun x => (g, x.2))) → fr h h' (b + 5) 4 → zwp sc 8 32 [some (.inr (.inl (some b))), some (.inl g), some (.inl (S.1.length : Int))] [] h' Q) → zwp sc 8 13 [some (.inr (.inl (some b))), some (.inl g), some (.inl (P.length : Int))] [] h Q := by
  intro T
  induction T with
  | nil =>
    intro h P L0 cs rb hPT hl h0 hI hI0 hs hp hQ
    rw [List.append_nil] at hPT
    subst hPT
    have := hQ h L0 h0 hI hI0 hs hp fr_rf
    rw [w_8_13]
    simp (disch := omega) only [e_8, w_8_0, w_8_1, w_8_2, w_8_3, w_8_4, w_8_5, w_8_6, w_8_7, w_8_8, w_8_9, w_8_10, w_8_11, w_8_12, w_8_14, w_8_15, w_8_16, w_8_17, w_8_18, w_8_19, w_8_20, w_8_21, w_8_22, w_8_23, w_8_24, w_8_25, w_8_26, w_8_27, w_8_28, w_8_29, w_8_30, w_8_31, getK, putK, ialK, iasK, aalK, aasK, alnK, zgt_u, zgt_a, Option.toList_some, Option.toList_none, List.cons_append, List.nil_append, List.map_cons, List.map_nil, List.replicate, ite_true, ite_false, if_true, if_false, List.getElem?_cons_zero, List.getElem?_cons_succ, List.set_cons_zero, List.set_cons_succ, true_and, and_true, beq_self_eq_true, zite, Int.toNat_natCast, if_pos, if_neg, zwr_id, zand, h0, rIt_rc hI, s_size2 hI]
    exact this
  | cons x T ih =>
    intro h P L0 cs rb hPT hl h0 hI hI0 hs hp hQ
    have hlen : (P.length : Int) + 1 + T.length = S.1.length := by rw [← hPT]; simp; omega
    have hgI : gI S.1 P.length = x := by
      unfold gI
      rw [if_pos (by omega), ← hPT]
      simp
    have hlen0 : L0.length = P.length := by rw [hp.length_eq, List.length_map]
    rw [w_8_13]
    simp (disch := omega) only [e_8, w_8_0, w_8_1, w_8_2, w_8_3, w_8_4, w_8_5, w_8_6, w_8_7, w_8_8, w_8_9, w_8_10, w_8_11, w_8_12, w_8_14, w_8_15, w_8_16, w_8_17, w_8_18, w_8_19, w_8_20, w_8_21, w_8_22, w_8_23, w_8_24, w_8_25, w_8_26, w_8_27, w_8_28, w_8_29, w_8_30, w_8_31, getK, putK, ialK, iasK, aalK, aasK, alnK, zgt_u, zgt_a, Option.toList_some, Option.toList_none, List.cons_append, List.nil_append, List.map_cons, List.map_nil, List.replicate, ite_true, ite_false, if_true, if_false, List.getElem?_cons_zero, List.getElem?_cons_succ, List.set_cons_zero, List.set_cons_succ, true_and, and_true, beq_self_eq_true, zite, Int.toNat_natCast, if_pos, if_neg, zwr_id, zand, h0, rIt_rc hI, rIt_rc hI0, s_size2 hI, s_codeAt2 hI (by omega) (i := (P.length : Int)) (by omega) (by omega), s_weightAt2 hI (by omega) (i := (P.length : Int)) (by omega) (by omega), hgI]
    refine s_add (x := (g, x.2)) hI0 (by omega) hs (fun h1 L1 j1 j2 j3 j4 => ?_)
    have := ih h1 (P ++ [x]) L1 cs rb (by rw [← hPT]; simp) hl ((j4.2.2 b (by omega)).trans h0) (rIt_fr hI j4 (by omega)) j1 j2 (by
      rw [List.map_append]
      exact (j3.trans (List.Perm.cons _ hp)).trans (List.perm_append_singleton _ _).symm) (fun h' L' q1 q2 q3 q4 q5 q6 => hQ h' L' q1 q2 q3 q4 q5 (fr_tr j4 q6))
    simp (disch := omega) only [e_8, w_8_0, w_8_1, w_8_2, w_8_3, w_8_4, w_8_5, w_8_6, w_8_7, w_8_8, w_8_9, w_8_10, w_8_11, w_8_12, w_8_14, w_8_15, w_8_16, w_8_17, w_8_18, w_8_19, w_8_20, w_8_21, w_8_22, w_8_23, w_8_24, w_8_25, w_8_26, w_8_27, w_8_28, w_8_29, w_8_30, w_8_31, getK, putK, ialK, iasK, aalK, aasK, alnK, zgt_u, zgt_a, Option.toList_some, Option.toList_none, List.cons_append, List.nil_append, List.map_cons, List.map_nil, List.replicate, ite_true, ite_false, if_true, if_false, List.getElem?_cons_zero, List.getElem?_cons_succ, List.set_cons_zero, List.set_cons_succ, true_and, and_true, beq_self_eq_true, zite, Int.toNat_natCast, if_pos, if_neg, zwr_id, zand]
    rw [show (P.length : Int) + 1 = ((P ++ [x]).length : Nat) by simp]
    exact this
theorem s_renew {fA fB : List zI} (h0 : zgt h b = .inl (0, [.inr (.inl (some (b + 1))), .inr (.inl (some (b + 5))), .inr (.inl (some (b + 9))), .inl S.2.2.2.1, .inl S.2.2.2.2])) (hI : rIt h (b + 1) S.1) (hF0 : rIt h (b + 5) fA) (hF1 : rIt h (b + 9) fB) (hok : okIs S.1) (hl : S.1.length ≤ 24) (hQ : ∀ h', rDt h' b (renS S) → fr h h' b 13 → Q (some (.inl (lti (lgf S.1.length) (S.1.map (fun x => (lgf S.1.length, x.2)))))) h') : zca sc 8 [.inr (.inl (some b))] h Q := by
  simp (disch := omega) only [e_8, w_8_0, w_8_1, w_8_2, w_8_3, w_8_4, w_8_5, w_8_6, w_8_7, w_8_8, w_8_9, w_8_10, w_8_11, w_8_12, w_8_14, w_8_15, w_8_16, w_8_17, w_8_18, w_8_19, w_8_20, w_8_21, w_8_22, w_8_23, w_8_24, w_8_25, w_8_26, w_8_27, w_8_28, w_8_29, w_8_30, w_8_31, w_8_32, w_8_33, w_8_34, w_8_35, w_8_36, w_8_37, w_8_38, w_8_39, w_8_40, w_8_41, w_8_42, w_8_43, w_8_44, w_8_45, w_8_46, w_8_47, w_8_48, w_8_49, w_8_50, getK, putK, ialK, iasK, aalK, aasK, alnK, zgt_u, zgt_a, Option.toList_some, Option.toList_none, List.cons_append, List.nil_append, List.map_cons, List.map_nil, List.replicate, ite_true, ite_false, if_true, if_false, List.getElem?_cons_zero, List.getElem?_cons_succ, List.set_cons_zero, List.set_cons_succ, true_and, and_true, beq_self_eq_true, zite, Int.toNat_natCast, if_pos, if_neg, zwr_id, zand, h0, rIt_rc hF0]
  refine s_makeEmpty hF0 (fun h1 j1 j2 => ?_)
  have hF1' := rIt_fr hF1 j2 (by omega)
  have h01 : zgt h1 b = _ := (j2.2.2 b (by omega)).trans h0
  simp (disch := omega) only [e_8, w_8_0, w_8_1, w_8_2, w_8_3, w_8_4, w_8_5, w_8_6, w_8_7, w_8_8, w_8_9, w_8_10, w_8_11, w_8_12, w_8_14, w_8_15, w_8_16, w_8_17, w_8_18, w_8_19, w_8_20, w_8_21, w_8_22, w_8_23, w_8_24, w_8_25, w_8_26, w_8_27, w_8_28, w_8_29, w_8_30, w_8_31, w_8_32, w_8_33, w_8_34, w_8_35, w_8_36, w_8_37, w_8_38, w_8_39, w_8_40, w_8_41, w_8_42, w_8_43, w_8_44, w_8_45, w_8_46, w_8_47, w_8_48, w_8_49, w_8_50, getK, putK, ialK, iasK, aalK, aasK, alnK, zgt_u, zgt_a, Option.toList_some, Option.toList_none, List.cons_append, List.nil_append, List.map_cons, List.map_nil, List.replicate, ite_true, ite_false, if_true, if_false, List.getElem?_cons_zero, List.getElem?_cons_succ, List.set_cons_zero, List.set_cons_succ, true_and, and_true, beq_self_eq_true, zite, Int.toNat_natCast, if_pos, if_neg, zwr_id, zand, h01, rIt_rc hF1']
  refine s_makeEmpty hF1' (fun h2 k1 k2 => ?_)
  have h02 : zgt h2 b = _ := (k2.2.2 b (by omega)).trans h01
  have hI2 := rIt_fr (rIt_fr hI j2 (by omega)) k2 (by omega)
  have j1' := rIt_fr j1 k2 (by omega)
  have hb := @lgf_b S.1.length
  simp (disch := omega) only [e_8, w_8_0, w_8_1, w_8_2, w_8_3, w_8_4, w_8_5, w_8_6, w_8_7, w_8_8, w_8_9, w_8_10, w_8_11, w_8_12, w_8_14, w_8_15, w_8_16, w_8_17, w_8_18, w_8_19, w_8_20, w_8_21, w_8_22, w_8_23, w_8_24, w_8_25, w_8_26, w_8_27, w_8_28, w_8_29, w_8_30, w_8_31, w_8_32, w_8_33, w_8_34, w_8_35, w_8_36, w_8_37, w_8_38, w_8_39, w_8_40, w_8_41, w_8_42, w_8_43, w_8_44, w_8_45, w_8_46, w_8_47, w_8_48, w_8_49, w_8_50, getK, putK, ialK, iasK, aalK, aasK, alnK, zgt_u, zgt_a, Option.toList_some, Option.toList_none, List.cons_append, List.nil_append, List.map_cons, List.map_nil, List.replicate, ite_true, ite_false, if_true, if_false, List.getElem?_cons_zero, List.getElem?_cons_succ, List.set_cons_zero, List.set_cons_succ, true_and, and_true, beq_self_eq_true, zite, Int.toNat_natCast, if_pos, if_neg, zwr_id, zand, h02, rIt_rc hI2, s_size2 hI2, lp_lgf _ (show (S.1.length : Int) ≤ 48 by omega)]
  refine lp_renew (S := S) none S.1 h2 [] [] _ _ rfl hl h02 hI2 j1' List.Pairwise.nil (List.Perm.refl _) (fun h3 L3 q1 q2 q3 q4 q5 q6 => ?_)
  have ho3 : okIs (S.1.map (fun x => (lgf S.1.length, x.2))) := okIs_map lgf_b hok
  have hlen3 := q5.length_eq
  rw [List.length_map] at hlen3
  simp (disch := omega) only [e_8, w_8_0, w_8_1, w_8_2, w_8_3, w_8_4, w_8_5, w_8_6, w_8_7, w_8_8, w_8_9, w_8_10, w_8_11, w_8_12, w_8_14, w_8_15, w_8_16, w_8_17, w_8_18, w_8_19, w_8_20, w_8_21, w_8_22, w_8_23, w_8_24, w_8_25, w_8_26, w_8_27, w_8_28, w_8_29, w_8_30, w_8_31, w_8_32, w_8_33, w_8_34, w_8_35, w_8_36, w_8_37, w_8_38, w_8_39, w_8_40, w_8_41, w_8_42, w_8_43, w_8_44, w_8_45, w_8_46, w_8_47, w_8_48, w_8_49, w_8_50, getK, putK, ialK, iasK, aalK, aasK, alnK, zgt_u, zgt_a, Option.toList_some, Option.toList_none, List.cons_append, List.nil_append, List.map_cons, List.map_nil, List.replicate, ite_true, ite_false, if_true, if_false, List.getElem?_cons_zero, List.getElem?_cons_succ, List.set_cons_zero, List.set_cons_succ, true_and, and_true, beq_self_eq_true, zite, Int.toNat_natCast, if_pos, if_neg, zwr_id, zand, q1, rIt_rc q3, s_lettersIn q3 (show L3.length ≤ 48 by omega) (okIs_perm q5.symm ho3)]
  rw [lti_perm q5]
  generalize hh : zuH _ b _ = h4
  have hf4 : fr h3 h4 b 1 := by
    rw [← hh]
    exact fr_u (fr_u fr_rf (Nat.le_refl _) (by omega)) (Nat.le_refl _) (by omega)
  refine hQ h4 ⟨?_, ?_, ?_, ?_⟩ (fr_tr (fr_tr (fr_tr (fr_wd j2 (by omega) (by omega)) (fr_wd k2 (by omega) (by omega))) (fr_wd q6 (by omega) (by omega))) (fr_wd hf4 (by omega) (by omega)))
  · rw [← hh]
    simp (disch := omega) only [zgt_u, zgt_a, if_pos, if_neg, if_true, if_false, ite_true, ite_false]
    rfl
  · exact rIt_fr q2 hf4 (by omega)
  · exact ⟨L3, rIt_fr q3 hf4 (by omega), q4, q5⟩
  · exact ⟨[], rIt_fr (rIt_fr k1 q6 (by omega)) hf4 (by omega), List.Pairwise.nil, List.Perm.refl _⟩
end
