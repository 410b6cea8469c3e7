/-! THE MODEL'S TEXT AS A WHOLE -/
section
variable {sc : Nat × (Int → Int)} {h : zH} {Q : Option zV → zH → Prop} {pm fl p n : Int} {w : Int → Int} {T : Int → Int} {L : List zI}
theorem lp_matches6 (hX : mX h pm fl p n w T) (hT : okT T n) (hV : lvO w L) : ∀ (j : Nat) (i a : Int), i + j = n → 0 ≤ i → 0 ≤ a → a ≤ 24 * i → zwp sc 143 4 [some (.inr (.inl (some 24))), some (.inl a), some (.inl i)] [] h Q = Q (some (.inl (a + sumF (fun i => (fE T i L).length) j i))) h := by
  have h60 := hT.2.1
  have hO := hX.1
  have h24 := hV.2.1
  intro j
  induction j with
  | zero =>
    intro i a hi h0 ha hai
    rw [w_143_4]
    simp (disch := omega) only [e_143, w_143_0, w_143_1, w_143_2, w_143_3, w_143_5, w_143_6, w_143_7, w_143_8, w_143_9, w_143_10, w_143_11, w_143_12, w_143_13, w_143_14, w_143_15, w_143_16, w_143_17, getK, putK, ialK, iasK, aalK, aasK, alnK, zgt_u, zgt_a, Option.toList_some, Option.toList_none, List.cons_append, List.nil_append, List.map_cons, List.map_nil, List.replicate, ite_true, ite_false, if_true, if_false, List.getElem?_cons_zero, List.getElem?_cons_succ, List.set_cons_zero, List.set_cons_succ, true_and, and_true, beq_self_eq_true, zite, Int.toNat_natCast, if_pos, if_neg, zwr_id, zand, hO]
    unfold sumF
    rw [Int.add_zero]
  | succ j ih =>
    intro i a hi h0 ha hai
    have hm := fE_len T i L
    rw [w_143_4]
    unfold sumF
    simp (disch := omega) only [e_143, w_143_0, w_143_1, w_143_2, w_143_3, w_143_5, w_143_6, w_143_7, w_143_8, w_143_9, w_143_10, w_143_11, w_143_12, w_143_13, w_143_14, w_143_15, w_143_16, w_143_17, getK, putK, ialK, iasK, aalK, aasK, alnK, zgt_u, zgt_a, Option.toList_some, Option.toList_none, List.cons_append, List.nil_append, List.map_cons, List.map_nil, List.replicate, ite_true, ite_false, if_true, if_false, List.getElem?_cons_zero, List.getElem?_cons_succ, List.set_cons_zero, List.set_cons_succ, true_and, and_true, beq_self_eq_true, zite, Int.toNat_natCast, if_pos, if_neg, zwr_id, zand, hO, mX_rc hX, s6_endings hX hT hV, ih]
    rw [Int.add_assoc]
theorem s6_matches (hX : mX h pm fl p n w T) (hT : okT T n) (hV : lvO w L) : zca sc 143 [.inr (.inl (some 24))] h Q = Q (some (.inl (sumF (fun i => (fE T i L).length) n.toNat 0))) h := by
  have := hT.1
  simp (disch := omega) only [e_143, w_143_0, w_143_1, w_143_2, w_143_3, w_143_5, w_143_6, w_143_7, w_143_8, w_143_9, w_143_10, w_143_11, w_143_12, w_143_13, w_143_14, w_143_15, w_143_16, w_143_17, getK, putK, ialK, iasK, aalK, aasK, alnK, zgt_u, zgt_a, Option.toList_some, Option.toList_none, List.cons_append, List.nil_append, List.map_cons, List.map_nil, List.replicate, ite_true, ite_false, if_true, if_false, List.getElem?_cons_zero, List.getElem?_cons_succ, List.set_cons_zero, List.set_cons_succ, true_and, and_true, beq_self_eq_true, zite, Int.toNat_natCast, if_pos, if_neg, zwr_id, zand]
  rw [lp_matches6 hX hT hV n.toNat 0 0 (by omega) (by omega) (by omega) (by omega), Int.zero_add]
theorem lp_weights6 (hX : mX h pm fl p n w T) (hT : okT T n) (hV : lvO w L) : ∀ (j : Nat) (i a : Int), i + j = n → 0 ≤ i → -2376 * i ≤ a → a ≤ 2376 * i → zwp sc 144 4 [some (.inr (.inl (some 24))), some (.inl a), some (.inl i)] [] h Q = Q (some (.inl (a + sumF (fun i => wsum (fE T i L)) j i))) h := by
  have h60 := hT.2.1
  have hO := hX.1
  have h24 := hV.2.1
  intro j
  induction j with
  | zero =>
    intro i a hi h0 ha hai
    rw [w_144_4]
    simp (disch := omega) only [e_144, w_144_0, w_144_1, w_144_2, w_144_3, w_144_5, w_144_6, w_144_7, w_144_8, w_144_9, w_144_10, w_144_11, w_144_12, w_144_13, w_144_14, w_144_15, w_144_16, w_144_17, getK, putK, ialK, iasK, aalK, aasK, alnK, zgt_u, zgt_a, Option.toList_some, Option.toList_none, List.cons_append, List.nil_append, List.map_cons, List.map_nil, List.replicate, ite_true, ite_false, if_true, if_false, List.getElem?_cons_zero, List.getElem?_cons_succ, List.set_cons_zero, List.set_cons_succ, true_and, and_true, beq_self_eq_true, zite, Int.toNat_natCast, if_pos, if_neg, zwr_id, zand, hO]
    unfold sumF
    rw [Int.add_zero]
  | succ j ih =>
    intro i a hi h0 ha hai
    have hm := fE_w (T := T) (i := i) hV.2.2.2
    rw [w_144_4]
    unfold sumF
    simp (disch := omega) only [e_144, w_144_0, w_144_1, w_144_2, w_144_3, w_144_5, w_144_6, w_144_7, w_144_8, w_144_9, w_144_10, w_144_11, w_144_12, w_144_13, w_144_14, w_144_15, w_144_16, w_144_17, getK, putK, ialK, iasK, aalK, aasK, alnK, zgt_u, zgt_a, Option.toList_some, Option.toList_none, List.cons_append, List.nil_append, List.map_cons, List.map_nil, List.replicate, ite_true, ite_false, if_true, if_false, List.getElem?_cons_zero, List.getElem?_cons_succ, List.set_cons_zero, List.set_cons_succ, true_and, and_true, beq_self_eq_true, zite, Int.toNat_natCast, if_pos, if_neg, zwr_id, zand, hO, mX_rc hX, s6_weightAtP hX hT hV, ih]
    rw [Int.add_assoc]
theorem s6_weights (hX : mX h pm fl p n w T) (hT : okT T n) (hV : lvO w L) : zca sc 144 [.inr (.inl (some 24))] h Q = Q (some (.inl (sumF (fun i => wsum (fE T i L)) n.toNat 0))) h := by
  have := hT.1
  simp (disch := omega) only [e_144, w_144_0, w_144_1, w_144_2, w_144_3, w_144_5, w_144_6, w_144_7, w_144_8, w_144_9, w_144_10, w_144_11, w_144_12, w_144_13, w_144_14, w_144_15, w_144_16, w_144_17, getK, putK, ialK, iasK, aalK, aasK, alnK, zgt_u, zgt_a, Option.toList_some, Option.toList_none, List.cons_append, List.nil_append, List.map_cons, List.map_nil, List.replicate, ite_true, ite_false, if_true, if_false, List.getElem?_cons_zero, List.getElem?_cons_succ, List.set_cons_zero, List.set_cons_succ, true_and, and_true, beq_self_eq_true, zite, Int.toNat_natCast, if_pos, if_neg, zwr_id, zand]
  rw [lp_weights6 hX hT hV n.toNat 0 0 (by omega) (by omega) (by omega) (by omega), Int.zero_add]
theorem lp_covered6 (hX : mX h pm fl p n w T) (hT : okT T n) (hV : lvO w L) : ∀ (j : Nat) (i a : Int), i + j = n → 0 ≤ i → 0 ≤ a → a ≤ i → zwp sc 145 4 [some (.inr (.inl (some 24))), some (.inl a), some (.inl i)] [] h Q = Q (some (.inl (a + sumF (fun i => zb (cvB (fun e => loD L T e 6) i n 6 i = true)) j i))) h := by
  have h60 := hT.2.1
  have hO := hX.1
  intro j
  induction j with
  | zero =>
    intro i a hi h0 ha hai
    rw [w_145_4]
    simp (disch := omega) only [e_145, w_145_0, w_145_1, w_145_2, w_145_3, w_145_5, w_145_6, w_145_7, w_145_8, w_145_9, w_145_10, w_145_11, w_145_12, w_145_13, w_145_14, w_145_15, w_145_16, w_145_17, w_145_18, w_145_19, w_145_20, w_145_21, getK, putK, ialK, iasK, aalK, aasK, alnK, zgt_u, zgt_a, Option.toList_some, Option.toList_none, List.cons_append, List.nil_append, List.map_cons, List.map_nil, List.replicate, ite_true, ite_false, if_true, if_false, List.getElem?_cons_zero, List.getElem?_cons_succ, List.set_cons_zero, List.set_cons_succ, true_and, and_true, beq_self_eq_true, zite, Int.toNat_natCast, if_pos, if_neg, zwr_id, zand, hO]
    unfold sumF
    rw [Int.add_zero]
  | succ j ih =>
    intro i a hi h0 ha hai
    rw [w_145_4]
    unfold sumF
    by_cases c1 : cvB (fun e => loD L T e 6) i n 6 i = true
    · rw [zb_t c1]
      simp (disch := omega) only [e_145, w_145_0, w_145_1, w_145_2, w_145_3, w_145_5, w_145_6, w_145_7, w_145_8, w_145_9, w_145_10, w_145_11, w_145_12, w_145_13, w_145_14, w_145_15, w_145_16, w_145_17, w_145_18, w_145_19, w_145_20, w_145_21, getK, putK, ialK, iasK, aalK, aasK, alnK, zgt_u, zgt_a, Option.toList_some, Option.toList_none, List.cons_append, List.nil_append, List.map_cons, List.map_nil, List.replicate, ite_true, ite_false, if_true, if_false, List.getElem?_cons_zero, List.getElem?_cons_succ, List.set_cons_zero, List.set_cons_succ, true_and, and_true, beq_self_eq_true, zite, Int.toNat_natCast, if_pos, if_neg, zwr_id, zand, hO, mX_rc hX, s6_isCovered hX hT hV, zb_t c1]
      rw [ih (i + 1) (a + 1) (by omega) (by omega) (by omega) (by omega), Int.add_assoc]
    · rw [zb_f c1]
      simp (disch := omega) only [e_145, w_145_0, w_145_1, w_145_2, w_145_3, w_145_5, w_145_6, w_145_7, w_145_8, w_145_9, w_145_10, w_145_11, w_145_12, w_145_13, w_145_14, w_145_15, w_145_16, w_145_17, w_145_18, w_145_19, w_145_20, w_145_21, getK, putK, ialK, iasK, aalK, aasK, alnK, zgt_u, zgt_a, Option.toList_some, Option.toList_none, List.cons_append, List.nil_append, List.map_cons, List.map_nil, List.replicate, ite_true, ite_false, if_true, if_false, List.getElem?_cons_zero, List.getElem?_cons_succ, List.set_cons_zero, List.set_cons_succ, true_and, and_true, beq_self_eq_true, zite, Int.toNat_natCast, if_pos, if_neg, zwr_id, zand, hO, mX_rc hX, s6_isCovered hX hT hV, zb_f c1]
      rw [ih (i + 1) (a + 0) (by omega) (by omega) (by omega) (by omega), Int.add_assoc]
theorem s6_covered (hX : mX h pm fl p n w T) (hT : okT T n) (hV : lvO w L) : zca sc 145 [.inr (.inl (some 24))] h Q = Q (some (.inl (sumF (fun i => zb (cvB (fun e => loD L T e 6) i n 6 i = true)) n.toNat 0))) h := by
  have := hT.1
  simp (disch := omega) only [e_145, w_145_0, w_145_1, w_145_2, w_145_3, w_145_5, w_145_6, w_145_7, w_145_8, w_145_9, w_145_10, w_145_11, w_145_12, w_145_13, w_145_14, w_145_15, w_145_16, w_145_17, w_145_18, w_145_19, w_145_20, w_145_21, getK, putK, ialK, iasK, aalK, aasK, alnK, zgt_u, zgt_a, Option.toList_some, Option.toList_none, List.cons_append, List.nil_append, List.map_cons, List.map_nil, List.replicate, ite_true, ite_false, if_true, if_false, List.getElem?_cons_zero, List.getElem?_cons_succ, List.set_cons_zero, List.set_cons_succ, true_and, and_true, beq_self_eq_true, zite, Int.toNat_natCast, if_pos, if_neg, zwr_id, zand]
  rw [lp_covered6 hX hT hV n.toNat 0 0 (by omega) (by omega) (by omega) (by omega), Int.zero_add]
theorem lp_heaviest6 (hX : mX h pm fl p n w T) (hT : okT T n) (hV : lvO w L) : ∀ (j : Nat) (i b : Int), i + j = n → 0 ≤ i → (b = -9999 ∨ (0 ≤ b ∧ b < i)) → zwp sc 146 4 [some (.inr (.inl (some 24))), some (.inl b), some (.inl i)] [] h Q = Q (some (.inl (hvM (fun i => wsum (fE T i L)) j i b))) h := by
  have h60 := hT.2.1
  have hO := hX.1
  intro j
  induction j with
  | zero =>
    intro i b hi h0 hb
    rw [w_146_4]
    simp (disch := omega) only [e_146, w_146_0, w_146_1, w_146_2, w_146_3, w_146_5, w_146_6, w_146_7, w_146_8, w_146_9, w_146_10, w_146_11, w_146_12, w_146_13, w_146_14, w_146_15, w_146_16, w_146_17, w_146_18, w_146_19, w_146_20, w_146_21, w_146_22, w_146_23, w_146_24, w_146_25, getK, putK, ialK, iasK, aalK, aasK, alnK, zgt_u, zgt_a, Option.toList_some, Option.toList_none, List.cons_append, List.nil_append, List.map_cons, List.map_nil, List.replicate, ite_true, ite_false, if_true, if_false, List.getElem?_cons_zero, List.getElem?_cons_succ, List.set_cons_zero, List.set_cons_succ, true_and, and_true, beq_self_eq_true, zite, Int.toNat_natCast, if_pos, if_neg, zwr_id, zand, hO]
    rfl
  | succ j ih =>
    intro i b hi h0 hb
    rw [w_146_4]
    unfold hvM
    by_cases c1 : b = -9999
    · rw [if_pos (Or.inl c1)]
      simp (disch := omega) only [e_146, w_146_0, w_146_1, w_146_2, w_146_3, w_146_5, w_146_6, w_146_7, w_146_8, w_146_9, w_146_10, w_146_11, w_146_12, w_146_13, w_146_14, w_146_15, w_146_16, w_146_17, w_146_18, w_146_19, w_146_20, w_146_21, w_146_22, w_146_23, w_146_24, w_146_25, getK, putK, ialK, iasK, aalK, aasK, alnK, zgt_u, zgt_a, Option.toList_some, Option.toList_none, List.cons_append, List.nil_append, List.map_cons, List.map_nil, List.replicate, ite_true, ite_false, if_true, if_false, List.getElem?_cons_zero, List.getElem?_cons_succ, List.set_cons_zero, List.set_cons_succ, true_and, and_true, beq_self_eq_true, zite, Int.toNat_natCast, if_pos, if_neg, zwr_id, zand, hO, mX_rc hX, ih]
    · by_cases c2 : wsum (fE T b L) < wsum (fE T i L)
      · rw [if_pos (Or.inr c2)]
        simp (disch := omega) only [e_146, w_146_0, w_146_1, w_146_2, w_146_3, w_146_5, w_146_6, w_146_7, w_146_8, w_146_9, w_146_10, w_146_11, w_146_12, w_146_13, w_146_14, w_146_15, w_146_16, w_146_17, w_146_18, w_146_19, w_146_20, w_146_21, w_146_22, w_146_23, w_146_24, w_146_25, getK, putK, ialK, iasK, aalK, aasK, alnK, zgt_u, zgt_a, Option.toList_some, Option.toList_none, List.cons_append, List.nil_append, List.map_cons, List.map_nil, List.replicate, ite_true, ite_false, if_true, if_false, List.getElem?_cons_zero, List.getElem?_cons_succ, List.set_cons_zero, List.set_cons_succ, true_and, and_true, beq_self_eq_true, zite, Int.toNat_natCast, if_pos, if_neg, zwr_id, zand, hO, mX_rc hX, s6_weightAtP hX hT hV, ih]
      · rw [if_neg (fun q => q.elim c1 c2)]
        simp (disch := omega) only [e_146, w_146_0, w_146_1, w_146_2, w_146_3, w_146_5, w_146_6, w_146_7, w_146_8, w_146_9, w_146_10, w_146_11, w_146_12, w_146_13, w_146_14, w_146_15, w_146_16, w_146_17, w_146_18, w_146_19, w_146_20, w_146_21, w_146_22, w_146_23, w_146_24, w_146_25, getK, putK, ialK, iasK, aalK, aasK, alnK, zgt_u, zgt_a, Option.toList_some, Option.toList_none, List.cons_append, List.nil_append, List.map_cons, List.map_nil, List.replicate, ite_true, ite_false, if_true, if_false, List.getElem?_cons_zero, List.getElem?_cons_succ, List.set_cons_zero, List.set_cons_succ, true_and, and_true, beq_self_eq_true, zite, Int.toNat_natCast, if_pos, if_neg, zwr_id, zand, hO, mX_rc hX, s6_weightAtP hX hT hV, ih]
theorem s6_heaviest (hX : mX h pm fl p n w T) (hT : okT T n) (hV : lvO w L) : zca sc 146 [.inr (.inl (some 24))] h Q = Q (some (.inl (hvM (fun i => wsum (fE T i L)) n.toNat 0 (-9999)))) h := by
  have := hT.1
  simp (disch := omega) only [e_146, w_146_0, w_146_1, w_146_2, w_146_3, w_146_5, w_146_6, w_146_7, w_146_8, w_146_9, w_146_10, w_146_11, w_146_12, w_146_13, w_146_14, w_146_15, w_146_16, w_146_17, w_146_18, w_146_19, w_146_20, w_146_21, w_146_22, w_146_23, w_146_24, w_146_25, getK, putK, ialK, iasK, aalK, aasK, alnK, zgt_u, zgt_a, Option.toList_some, Option.toList_none, List.cons_append, List.nil_append, List.map_cons, List.map_nil, List.replicate, ite_true, ite_false, if_true, if_false, List.getElem?_cons_zero, List.getElem?_cons_succ, List.set_cons_zero, List.set_cons_succ, true_and, and_true, beq_self_eq_true, zite, Int.toNat_natCast, if_pos, if_neg, zwr_id, zand]
  rw [lp_heaviest6 hX hT hV n.toNat 0 (-9999) (by omega) (by omega) (Or.inl rfl)]
theorem lp_find60 {k l3' : Int} (hX : mX h pm fl p n w T) (hT : okT T n) (hV : lvO w L) (hp : 0 ≤ p ∧ p ≤ 999999) : ∀ (j : Nat) (i l : Int), i + j = n → 0 ≤ i → 0 ≤ l → l ≤ k → k ≤ 2147483647 → zwp sc 149 20 [some (.inr (.inl (some 24))), some (.inl k), some (.inl 0), some (.inl l), some (.inl i)] [] h Q = Q (some (.inl (fiF (fun i => decide (enT T (i + 1) (nd p).toNat = p)) j i l))) h := by
  have h60 := hT.2.1
  have hO := hX.1
  intro j
  induction j with
  | zero =>
    intro i l hi h0 hl hlk hk
    rw [w_149_20]
    simp (disch := omega) only [e_149, w_149_0, w_149_1, w_149_2, w_149_3, w_149_4, w_149_5, w_149_6, w_149_7, w_149_8, w_149_9, w_149_10, w_149_11, w_149_12, w_149_13, w_149_14, w_149_15, w_149_16, w_149_17, w_149_18, w_149_19, w_149_21, w_149_22, w_149_23, w_149_24, w_149_25, w_149_26, w_149_27, w_149_28, w_149_29, w_149_30, w_149_31, w_149_32, w_149_33, w_149_34, w_149_35, w_149_36, w_149_37, w_149_38, w_149_39, w_149_40, w_149_41, w_149_42, w_149_43, w_149_44, w_149_45, getK, putK, ialK, iasK, aalK, aasK, alnK, zgt_u, zgt_a, Option.toList_some, Option.toList_none, List.cons_append, List.nil_append, List.map_cons, List.map_nil, List.replicate, ite_true, ite_false, if_true, if_false, List.getElem?_cons_zero, List.getElem?_cons_succ, List.set_cons_zero, List.set_cons_succ, true_and, and_true, beq_self_eq_true, zite, Int.toNat_natCast, if_pos, if_neg, zwr_id, zand, hO]
    rfl
  | succ j ih =>
    intro i l hi h0 hl hlk hk
    rw [w_149_20]
    unfold fiF
    by_cases e : eA T i p = true
    · rw [if_pos (by unfold eA at e; exact e)]
      by_cases e2 : l = 0
      · rw [if_pos e2]
        simp (disch := omega) only [e_149, w_149_0, w_149_1, w_149_2, w_149_3, w_149_4, w_149_5, w_149_6, w_149_7, w_149_8, w_149_9, w_149_10, w_149_11, w_149_12, w_149_13, w_149_14, w_149_15, w_149_16, w_149_17, w_149_18, w_149_19, w_149_21, w_149_22, w_149_23, w_149_24, w_149_25, w_149_26, w_149_27, w_149_28, w_149_29, w_149_30, w_149_31, w_149_32, w_149_33, w_149_34, w_149_35, w_149_36, w_149_37, w_149_38, w_149_39, w_149_40, w_149_41, w_149_42, w_149_43, w_149_44, w_149_45, getK, putK, ialK, iasK, aalK, aasK, alnK, zgt_u, zgt_a, Option.toList_some, Option.toList_none, List.cons_append, List.nil_append, List.map_cons, List.map_nil, List.replicate, ite_true, ite_false, if_true, if_false, List.getElem?_cons_zero, List.getElem?_cons_succ, List.set_cons_zero, List.set_cons_succ, true_and, and_true, beq_self_eq_true, zite, Int.toNat_natCast, if_pos, if_neg, zwr_id, zand, hO, mX_rc hX, s6_endsAt hX hT hp, zb_t e, e2]
      · rw [if_neg e2]
        simp (disch := omega) only [e_149, w_149_0, w_149_1, w_149_2, w_149_3, w_149_4, w_149_5, w_149_6, w_149_7, w_149_8, w_149_9, w_149_10, w_149_11, w_149_12, w_149_13, w_149_14, w_149_15, w_149_16, w_149_17, w_149_18, w_149_19, w_149_21, w_149_22, w_149_23, w_149_24, w_149_25, w_149_26, w_149_27, w_149_28, w_149_29, w_149_30, w_149_31, w_149_32, w_149_33, w_149_34, w_149_35, w_149_36, w_149_37, w_149_38, w_149_39, w_149_40, w_149_41, w_149_42, w_149_43, w_149_44, w_149_45, getK, putK, ialK, iasK, aalK, aasK, alnK, zgt_u, zgt_a, Option.toList_some, Option.toList_none, List.cons_append, List.nil_append, List.map_cons, List.map_nil, List.replicate, ite_true, ite_false, if_true, if_false, List.getElem?_cons_zero, List.getElem?_cons_succ, List.set_cons_zero, List.set_cons_succ, true_and, and_true, beq_self_eq_true, zite, Int.toNat_natCast, if_pos, if_neg, zwr_id, zand, hO, mX_rc hX, s6_endsAt hX hT hp, zb_t e]
        exact ih (i + 1) (l - 1) (by omega) (by omega) (by omega) (by omega) hk
    · rw [if_neg (by unfold eA at e; exact e)]
      simp (disch := omega) only [e_149, w_149_0, w_149_1, w_149_2, w_149_3, w_149_4, w_149_5, w_149_6, w_149_7, w_149_8, w_149_9, w_149_10, w_149_11, w_149_12, w_149_13, w_149_14, w_149_15, w_149_16, w_149_17, w_149_18, w_149_19, w_149_21, w_149_22, w_149_23, w_149_24, w_149_25, w_149_26, w_149_27, w_149_28, w_149_29, w_149_30, w_149_31, w_149_32, w_149_33, w_149_34, w_149_35, w_149_36, w_149_37, w_149_38, w_149_39, w_149_40, w_149_41, w_149_42, w_149_43, w_149_44, w_149_45, getK, putK, ialK, iasK, aalK, aasK, alnK, zgt_u, zgt_a, Option.toList_some, Option.toList_none, List.cons_append, List.nil_append, List.map_cons, List.map_nil, List.replicate, ite_true, ite_false, if_true, if_false, List.getElem?_cons_zero, List.getElem?_cons_succ, List.set_cons_zero, List.set_cons_succ, true_and, and_true, beq_self_eq_true, zite, Int.toNat_natCast, if_pos, if_neg, zwr_id, zand, hO, mX_rc hX, s6_endsAt hX hT hp, zb_f e]
      exact ih (i + 1) l (by omega) (by omega) (by omega) (by omega) hk
theorem lp_find61 {k : Int} (hX : mX h pm fl p n w T) (hT : okT T n) (hV : lvO w L) : ∀ (j : Nat) (i l : Int), i + j = n → 0 ≤ i → 0 ≤ l → l ≤ k → k ≤ 2147483647 → zwp sc 149 20 [some (.inr (.inl (some 24))), some (.inl k), some (.inl 1), some (.inl l), some (.inl i)] [] h Q = Q (some (.inl (fiF (fun i => decide (0 < ((fE T i L).length : Int))) j i l))) h := by
  have h60 := hT.2.1
  have hO := hX.1
  intro j
  induction j with
  | zero =>
    intro i l hi h0 hl hlk hk
    rw [w_149_20]
    simp (disch := omega) only [e_149, w_149_0, w_149_1, w_149_2, w_149_3, w_149_4, w_149_5, w_149_6, w_149_7, w_149_8, w_149_9, w_149_10, w_149_11, w_149_12, w_149_13, w_149_14, w_149_15, w_149_16, w_149_17, w_149_18, w_149_19, w_149_21, w_149_22, w_149_23, w_149_24, w_149_25, w_149_26, w_149_27, w_149_28, w_149_29, w_149_30, w_149_31, w_149_32, w_149_33, w_149_34, w_149_35, w_149_36, w_149_37, w_149_38, w_149_39, w_149_40, w_149_41, w_149_42, w_149_43, w_149_44, w_149_45, getK, putK, ialK, iasK, aalK, aasK, alnK, zgt_u, zgt_a, Option.toList_some, Option.toList_none, List.cons_append, List.nil_append, List.map_cons, List.map_nil, List.replicate, ite_true, ite_false, if_true, if_false, List.getElem?_cons_zero, List.getElem?_cons_succ, List.set_cons_zero, List.set_cons_succ, true_and, and_true, beq_self_eq_true, zite, Int.toNat_natCast, if_pos, if_neg, zwr_id, zand, hO]
    rfl
  | succ j ih =>
    intro i l hi h0 hl hlk hk
    rw [w_149_20]
    unfold fiF
    by_cases e : 0 < ((fE T i L).length : Int)
    · rw [if_pos (decide_eq_true e)]
      by_cases e2 : l = 0
      · rw [if_pos e2]
        simp (disch := omega) only [e_149, w_149_0, w_149_1, w_149_2, w_149_3, w_149_4, w_149_5, w_149_6, w_149_7, w_149_8, w_149_9, w_149_10, w_149_11, w_149_12, w_149_13, w_149_14, w_149_15, w_149_16, w_149_17, w_149_18, w_149_19, w_149_21, w_149_22, w_149_23, w_149_24, w_149_25, w_149_26, w_149_27, w_149_28, w_149_29, w_149_30, w_149_31, w_149_32, w_149_33, w_149_34, w_149_35, w_149_36, w_149_37, w_149_38, w_149_39, w_149_40, w_149_41, w_149_42, w_149_43, w_149_44, w_149_45, getK, putK, ialK, iasK, aalK, aasK, alnK, zgt_u, zgt_a, Option.toList_some, Option.toList_none, List.cons_append, List.nil_append, List.map_cons, List.map_nil, List.replicate, ite_true, ite_false, if_true, if_false, List.getElem?_cons_zero, List.getElem?_cons_succ, List.set_cons_zero, List.set_cons_succ, true_and, and_true, beq_self_eq_true, zite, Int.toNat_natCast, if_pos, if_neg, zwr_id, zand, hO, mX_rc hX, s6_endings hX hT hV, e2]
      · rw [if_neg e2]
        simp (disch := omega) only [e_149, w_149_0, w_149_1, w_149_2, w_149_3, w_149_4, w_149_5, w_149_6, w_149_7, w_149_8, w_149_9, w_149_10, w_149_11, w_149_12, w_149_13, w_149_14, w_149_15, w_149_16, w_149_17, w_149_18, w_149_19, w_149_21, w_149_22, w_149_23, w_149_24, w_149_25, w_149_26, w_149_27, w_149_28, w_149_29, w_149_30, w_149_31, w_149_32, w_149_33, w_149_34, w_149_35, w_149_36, w_149_37, w_149_38, w_149_39, w_149_40, w_149_41, w_149_42, w_149_43, w_149_44, w_149_45, getK, putK, ialK, iasK, aalK, aasK, alnK, zgt_u, zgt_a, Option.toList_some, Option.toList_none, List.cons_append, List.nil_append, List.map_cons, List.map_nil, List.replicate, ite_true, ite_false, if_true, if_false, List.getElem?_cons_zero, List.getElem?_cons_succ, List.set_cons_zero, List.set_cons_succ, true_and, and_true, beq_self_eq_true, zite, Int.toNat_natCast, if_pos, if_neg, zwr_id, zand, hO, mX_rc hX, s6_endings hX hT hV]
        exact ih (i + 1) (l - 1) (by omega) (by omega) (by omega) (by omega) hk
    · rw [if_neg (fun q => e (of_decide_eq_true q))]
      simp (disch := omega) only [e_149, w_149_0, w_149_1, w_149_2, w_149_3, w_149_4, w_149_5, w_149_6, w_149_7, w_149_8, w_149_9, w_149_10, w_149_11, w_149_12, w_149_13, w_149_14, w_149_15, w_149_16, w_149_17, w_149_18, w_149_19, w_149_21, w_149_22, w_149_23, w_149_24, w_149_25, w_149_26, w_149_27, w_149_28, w_149_29, w_149_30, w_149_31, w_149_32, w_149_33, w_149_34, w_149_35, w_149_36, w_149_37, w_149_38, w_149_39, w_149_40, w_149_41, w_149_42, w_149_43, w_149_44, w_149_45, getK, putK, ialK, iasK, aalK, aasK, alnK, zgt_u, zgt_a, Option.toList_some, Option.toList_none, List.cons_append, List.nil_append, List.map_cons, List.map_nil, List.replicate, ite_true, ite_false, if_true, if_false, List.getElem?_cons_zero, List.getElem?_cons_succ, List.set_cons_zero, List.set_cons_succ, true_and, and_true, beq_self_eq_true, zite, Int.toNat_natCast, if_pos, if_neg, zwr_id, zand, hO, mX_rc hX, s6_endings hX hT hV]
      exact ih (i + 1) l (by omega) (by omega) (by omega) (by omega) hk
end
theorem fiF_cg {e f : Int → Bool} : ∀ (j : Nat) (i l : Int), (∀ k, i ≤ k → k < i + j → e k = f k) → fiF e j i l = fiF f j i l
  | 0, _, _, _ => rfl
  | j + 1, i, l, h => by
    unfold fiF
    rw [h i (Int.le_refl _) (by omega), fiF_cg j (i + 1) (l - 1) (fun k a b => h k (by omega) (by omega)), fiF_cg j (i + 1) l (fun k a b => h k (by omega) (by omega))]
theorem hvM_cg {e f : Int → Int} : ∀ (j : Nat) (i b : Int), (∀ k, 0 ≤ k → k < i + j → e k = f k) → 0 ≤ i → (b = -9999 ∨ (0 ≤ b ∧ b < i)) → hvM e j i b = hvM f j i b
  | 0, _, _, _, _, _ => rfl
  | j + 1, i, b, h, h0, hb => by
    unfold hvM
    rcases hb with q | q
    · rw [if_pos (Or.inl q), if_pos (Or.inl q)]
      exact hvM_cg j (i + 1) i (fun k a c => h k a (by omega)) (by omega) (by omega)
    · rw [h i h0 (by omega), h b q.1 (by omega)]
      split
      · exact hvM_cg j (i + 1) i (fun k a c => h k a (by omega)) (by omega) (by omega)
      · exact hvM_cg j (i + 1) b (fun k a c => h k a (by omega)) (by omega) (by omega)
section
variable {sc : Nat × (Int → Int)} {h : zH} {Q : Option zV → zH → Prop} {z : zS}
theorem mX_of (hM : rM h z) (hz : okZ z) : ∃ w, mX h z.H.length (fil z.I0 z.I1) z.p z.n w z.T ∧ lvO w z.S.1 := by
  obtain ⟨m0, ⟨w, m1, l1, -⟩, -, -, m4, -⟩ := hM
  obtain ⟨o1, o2, o3, o4, o5, -⟩ := hz.1
  exact ⟨w, ⟨m0, m1, m4⟩, l1, o5, o4, o1⟩
theorem mN_z {i : Int} (hz : okZ z) (hi : i < z.n) : mN z.S.1 z.T i 6 1 = fE z.T i z.S.1 := mN_fE hz.2.2.2.2.2.2 hz.1.2.2.2.1 hz.1.1 hi
theorem mtS_m (hz : okZ z) : sumF (fun i => (fE z.T i z.S.1).length) z.n.toNat 0 = mtS z := by
  have := hz.2.2.2.2.2.2.1
  unfold mtS
  exact sumF_cg _ _ (fun k a b => by rw [mN_z hz (by omega)])
theorem wmS_m (hz : okZ z) : sumF (fun i => wsum (fE z.T i z.S.1)) z.n.toNat 0 = wmS z := by
  have := hz.2.2.2.2.2.2.1
  unfold wmS
  exact sumF_cg _ _ (fun k a b => by rw [mN_z hz (by omega)])
theorem s6_word {k x : Int} (hM : rM h z) (hz : okZ z) : zca sc 127 [.inr (.inl (some 24)), .inl k, .inl x] h Q = Q (some (.inl (woS z k x))) h := by
  obtain ⟨w, hX, hV⟩ := mX_of hM hz
  have hT := hz.2.2.2.2.2.2
  obtain ⟨hO, hW, -⟩ := id hX
  obtain ⟨hL, hl, hs, ho⟩ := id hV
  have hw := hL.1
  unfold woS
  by_cases h1 : 0 ≤ k
  · by_cases h2 : 0 ≤ x ∧ x ≤ 2
    · rw [if_pos ⟨h1, h2⟩]
      by_cases h4 : z.S.1.length ≤ k
      · simp (disch := omega) only [e_127, w_127_0, w_127_1, w_127_2, w_127_3, w_127_4, w_127_5, w_127_6, w_127_7, w_127_8, w_127_9, w_127_10, w_127_11, w_127_12, w_127_13, w_127_14, w_127_15, w_127_16, w_127_17, w_127_18, w_127_19, w_127_20, w_127_21, w_127_22, w_127_23, w_127_24, w_127_25, w_127_26, w_127_27, w_127_28, w_127_29, w_127_30, w_127_31, w_127_32, w_127_33, w_127_34, w_127_35, w_127_36, w_127_37, w_127_38, w_127_39, w_127_40, w_127_41, w_127_42, w_127_43, w_127_44, getK, putK, ialK, iasK, aalK, aasK, alnK, zgt_u, zgt_a, Option.toList_some, Option.toList_none, List.cons_append, List.nil_append, List.map_cons, List.map_nil, List.replicate, ite_true, ite_false, if_true, if_false, List.getElem?_cons_zero, List.getElem?_cons_succ, List.set_cons_zero, List.set_cons_succ, true_and, and_true, beq_self_eq_true, zite, Int.toNat_natCast, if_pos, if_neg, zwr_id, zand, hO, hW, hw, s_isIn, zb_eq, zb_ne]
      · obtain ⟨hx1, hx2⟩ := hL.2 k h1 (by omega)
        by_cases k0 : x = 0
        · subst k0
          simp (disch := omega) only [e_127, w_127_0, w_127_1, w_127_2, w_127_3, w_127_4, w_127_5, w_127_6, w_127_7, w_127_8, w_127_9, w_127_10, w_127_11, w_127_12, w_127_13, w_127_14, w_127_15, w_127_16, w_127_17, w_127_18, w_127_19, w_127_20, w_127_21, w_127_22, w_127_23, w_127_24, w_127_25, w_127_26, w_127_27, w_127_28, w_127_29, w_127_30, w_127_31, w_127_32, w_127_33, w_127_34, w_127_35, w_127_36, w_127_37, w_127_38, w_127_39, w_127_40, w_127_41, w_127_42, w_127_43, w_127_44, getK, putK, ialK, iasK, aalK, aasK, alnK, zgt_u, zgt_a, Option.toList_some, Option.toList_none, List.cons_append, List.nil_append, List.map_cons, List.map_nil, List.replicate, ite_true, ite_false, if_true, if_false, List.getElem?_cons_zero, List.getElem?_cons_succ, List.set_cons_zero, List.set_cons_succ, true_and, and_true, beq_self_eq_true, zite, Int.toNat_natCast, if_pos, if_neg, zwr_id, zand, hO, hW, hw, s_isIn, zb_eq, zb_ne, hx1]
        by_cases k1 : x = 1
        · subst k1
          simp (disch := omega) only [e_127, w_127_0, w_127_1, w_127_2, w_127_3, w_127_4, w_127_5, w_127_6, w_127_7, w_127_8, w_127_9, w_127_10, w_127_11, w_127_12, w_127_13, w_127_14, w_127_15, w_127_16, w_127_17, w_127_18, w_127_19, w_127_20, w_127_21, w_127_22, w_127_23, w_127_24, w_127_25, w_127_26, w_127_27, w_127_28, w_127_29, w_127_30, w_127_31, w_127_32, w_127_33, w_127_34, w_127_35, w_127_36, w_127_37, w_127_38, w_127_39, w_127_40, w_127_41, w_127_42, w_127_43, w_127_44, getK, putK, ialK, iasK, aalK, aasK, alnK, zgt_u, zgt_a, Option.toList_some, Option.toList_none, List.cons_append, List.nil_append, List.map_cons, List.map_nil, List.replicate, ite_true, ite_false, if_true, if_false, List.getElem?_cons_zero, List.getElem?_cons_succ, List.set_cons_zero, List.set_cons_succ, true_and, and_true, beq_self_eq_true, zite, Int.toNat_natCast, if_pos, if_neg, zwr_id, zand, hO, hW, hw, s_isIn, zb_eq, zb_ne, hx2]
        have hwd := (ho _ (gI_mem h1 (by omega)).2).2.2.1
        have hwr : 0 ≤ (gI z.S.1 k).2.1 ∧ (gI z.S.1 k).2.1 ≤ 999999 := by unfold wd at hwd; omega
        simp (disch := omega) only [e_127, w_127_0, w_127_1, w_127_2, w_127_3, w_127_4, w_127_5, w_127_6, w_127_7, w_127_8, w_127_9, w_127_10, w_127_11, w_127_12, w_127_13, w_127_14, w_127_15, w_127_16, w_127_17, w_127_18, w_127_19, w_127_20, w_127_21, w_127_22, w_127_23, w_127_24, w_127_25, w_127_26, w_127_27, w_127_28, w_127_29, w_127_30, w_127_31, w_127_32, w_127_33, w_127_34, w_127_35, w_127_36, w_127_37, w_127_38, w_127_39, w_127_40, w_127_41, w_127_42, w_127_43, w_127_44, getK, putK, ialK, iasK, aalK, aasK, alnK, zgt_u, zgt_a, Option.toList_some, Option.toList_none, List.cons_append, List.nil_append, List.map_cons, List.map_nil, List.replicate, ite_true, ite_false, if_true, if_false, List.getElem?_cons_zero, List.getElem?_cons_succ, List.set_cons_zero, List.set_cons_succ, true_and, and_true, beq_self_eq_true, zite, Int.toNat_natCast, if_pos, if_neg, zwr_id, zand, hO, hW, hw, s_isIn, zb_eq, zb_ne, hx1, mX_rc hX, s6_matchesOf hX hT hwr]
    · rw [if_neg (fun q => h2 q.2)]
      simp (disch := omega) only [e_127, w_127_0, w_127_1, w_127_2, w_127_3, w_127_4, w_127_5, w_127_6, w_127_7, w_127_8, w_127_9, w_127_10, w_127_11, w_127_12, w_127_13, w_127_14, w_127_15, w_127_16, w_127_17, w_127_18, w_127_19, w_127_20, w_127_21, w_127_22, w_127_23, w_127_24, w_127_25, w_127_26, w_127_27, w_127_28, w_127_29, w_127_30, w_127_31, w_127_32, w_127_33, w_127_34, w_127_35, w_127_36, w_127_37, w_127_38, w_127_39, w_127_40, w_127_41, w_127_42, w_127_43, w_127_44, getK, putK, ialK, iasK, aalK, aasK, alnK, zgt_u, zgt_a, Option.toList_some, Option.toList_none, List.cons_append, List.nil_append, List.map_cons, List.map_nil, List.replicate, ite_true, ite_false, if_true, if_false, List.getElem?_cons_zero, List.getElem?_cons_succ, List.set_cons_zero, List.set_cons_succ, true_and, and_true, beq_self_eq_true, zite, Int.toNat_natCast, if_pos, if_neg, zwr_id, zand, hO, s_isIn, zb_eq, zb_ne]
  · rw [if_neg (fun q => h1 q.1)]
    simp (disch := omega) only [e_127, w_127_0, w_127_1, w_127_2, w_127_3, w_127_4, w_127_5, w_127_6, w_127_7, w_127_8, w_127_9, w_127_10, w_127_11, w_127_12, w_127_13, w_127_14, w_127_15, w_127_16, w_127_17, w_127_18, w_127_19, w_127_20, w_127_21, w_127_22, w_127_23, w_127_24, w_127_25, w_127_26, w_127_27, w_127_28, w_127_29, w_127_30, w_127_31, w_127_32, w_127_33, w_127_34, w_127_35, w_127_36, w_127_37, w_127_38, w_127_39, w_127_40, w_127_41, w_127_42, w_127_43, w_127_44, getK, putK, ialK, iasK, aalK, aasK, alnK, zgt_u, zgt_a, Option.toList_some, Option.toList_none, List.cons_append, List.nil_append, List.map_cons, List.map_nil, List.replicate, ite_true, ite_false, if_true, if_false, List.getElem?_cons_zero, List.getElem?_cons_succ, List.set_cons_zero, List.set_cons_succ, true_and, and_true, beq_self_eq_true, zite, Int.toNat_natCast, if_pos, if_neg, zwr_id, zand, hO]
theorem s6_at {i x : Int} (hM : rM h z) (hz : okZ z) : zca sc 142 [.inr (.inl (some 24)), .inl i, .inl x] h Q = Q (some (.inl (atS z i x))) h := by
  obtain ⟨w, hX, hV⟩ := mX_of hM hz
  have hT := hz.2.2.2.2.2.2
  have h60 := hT.2.1
  have h00 := hT.1
  obtain ⟨hO, hW, hT4⟩ := id hX
  obtain ⟨hL, hl, hs, ho⟩ := id hV
  unfold atS
  by_cases h1 : 0 ≤ i ∧ i < z.n
  · rw [if_pos h1]
    have h1' : 0 ≤ i ∧ i ≤ z.n - 1 := by omega
    have em := mN_z hz h1.2
    have elo := (lo_lg (i := i) hT hs ho h1.2).1
    by_cases h2 : 0 ≤ x ∧ x ≤ 4
    · by_cases k0 : x = 0
      · subst k0
        simp (disch := omega) only [e_142, w_142_0, w_142_1, w_142_2, w_142_3, w_142_4, w_142_5, w_142_6, w_142_7, w_142_8, w_142_9, w_142_10, w_142_11, w_142_12, w_142_13, w_142_14, w_142_15, w_142_16, w_142_17, w_142_18, w_142_19, w_142_20, w_142_21, w_142_22, w_142_23, w_142_24, w_142_25, w_142_26, w_142_27, w_142_28, w_142_29, w_142_30, w_142_31, w_142_32, w_142_33, w_142_34, w_142_35, w_142_36, w_142_37, w_142_38, w_142_39, w_142_40, w_142_41, getK, putK, ialK, iasK, aalK, aasK, alnK, zgt_u, zgt_a, Option.toList_some, Option.toList_none, List.cons_append, List.nil_append, List.map_cons, List.map_nil, List.replicate, ite_true, ite_false, if_true, if_false, List.getElem?_cons_zero, List.getElem?_cons_succ, List.set_cons_zero, List.set_cons_succ, true_and, and_true, beq_self_eq_true, zite, Int.toNat_natCast, if_pos, if_neg, zwr_id, zand, hO, hT4, s_isIn, zb_eq, zb_ne]
      by_cases k1 : x = 1
      · subst k1
        rw [em]
        simp (disch := omega) only [e_142, w_142_0, w_142_1, w_142_2, w_142_3, w_142_4, w_142_5, w_142_6, w_142_7, w_142_8, w_142_9, w_142_10, w_142_11, w_142_12, w_142_13, w_142_14, w_142_15, w_142_16, w_142_17, w_142_18, w_142_19, w_142_20, w_142_21, w_142_22, w_142_23, w_142_24, w_142_25, w_142_26, w_142_27, w_142_28, w_142_29, w_142_30, w_142_31, w_142_32, w_142_33, w_142_34, w_142_35, w_142_36, w_142_37, w_142_38, w_142_39, w_142_40, w_142_41, getK, putK, ialK, iasK, aalK, aasK, alnK, zgt_u, zgt_a, Option.toList_some, Option.toList_none, List.cons_append, List.nil_append, List.map_cons, List.map_nil, List.replicate, ite_true, ite_false, if_true, if_false, List.getElem?_cons_zero, List.getElem?_cons_succ, List.set_cons_zero, List.set_cons_succ, true_and, and_true, beq_self_eq_true, zite, Int.toNat_natCast, if_pos, if_neg, zwr_id, zand, hO, s_isIn, zb_eq, zb_ne, mX_rc hX, s6_endings hX hT hV]
      by_cases k2 : x = 2
      · subst k2
        rw [em]
        simp (disch := omega) only [e_142, w_142_0, w_142_1, w_142_2, w_142_3, w_142_4, w_142_5, w_142_6, w_142_7, w_142_8, w_142_9, w_142_10, w_142_11, w_142_12, w_142_13, w_142_14, w_142_15, w_142_16, w_142_17, w_142_18, w_142_19, w_142_20, w_142_21, w_142_22, w_142_23, w_142_24, w_142_25, w_142_26, w_142_27, w_142_28, w_142_29, w_142_30, w_142_31, w_142_32, w_142_33, w_142_34, w_142_35, w_142_36, w_142_37, w_142_38, w_142_39, w_142_40, w_142_41, getK, putK, ialK, iasK, aalK, aasK, alnK, zgt_u, zgt_a, Option.toList_some, Option.toList_none, List.cons_append, List.nil_append, List.map_cons, List.map_nil, List.replicate, ite_true, ite_false, if_true, if_false, List.getElem?_cons_zero, List.getElem?_cons_succ, List.set_cons_zero, List.set_cons_succ, true_and, and_true, beq_self_eq_true, zite, Int.toNat_natCast, if_pos, if_neg, zwr_id, zand, hO, s_isIn, zb_eq, zb_ne, mX_rc hX, s6_weightAtP hX hT hV]
      by_cases k3 : x = 3
      · subst k3
        rw [← elo]
        simp (disch := omega) only [e_142, w_142_0, w_142_1, w_142_2, w_142_3, w_142_4, w_142_5, w_142_6, w_142_7, w_142_8, w_142_9, w_142_10, w_142_11, w_142_12, w_142_13, w_142_14, w_142_15, w_142_16, w_142_17, w_142_18, w_142_19, w_142_20, w_142_21, w_142_22, w_142_23, w_142_24, w_142_25, w_142_26, w_142_27, w_142_28, w_142_29, w_142_30, w_142_31, w_142_32, w_142_33, w_142_34, w_142_35, w_142_36, w_142_37, w_142_38, w_142_39, w_142_40, w_142_41, getK, putK, ialK, iasK, aalK, aasK, alnK, zgt_u, zgt_a, Option.toList_some, Option.toList_none, List.cons_append, List.nil_append, List.map_cons, List.map_nil, List.replicate, ite_true, ite_false, if_true, if_false, List.getElem?_cons_zero, List.getElem?_cons_succ, List.set_cons_zero, List.set_cons_succ, true_and, and_true, beq_self_eq_true, zite, Int.toNat_natCast, if_pos, if_neg, zwr_id, zand, hO, s_isIn, zb_eq, zb_ne, mX_rc hX, s6_longestAt hX hT hV]
      have k4 : x = 4 := by omega
      subst k4
      by_cases hc : cvB (fun e => loD z.S.1 z.T e 6) i z.n 6 i = true
      · rw [zb_t hc]
        simp (disch := omega) only [e_142, w_142_0, w_142_1, w_142_2, w_142_3, w_142_4, w_142_5, w_142_6, w_142_7, w_142_8, w_142_9, w_142_10, w_142_11, w_142_12, w_142_13, w_142_14, w_142_15, w_142_16, w_142_17, w_142_18, w_142_19, w_142_20, w_142_21, w_142_22, w_142_23, w_142_24, w_142_25, w_142_26, w_142_27, w_142_28, w_142_29, w_142_30, w_142_31, w_142_32, w_142_33, w_142_34, w_142_35, w_142_36, w_142_37, w_142_38, w_142_39, w_142_40, w_142_41, getK, putK, ialK, iasK, aalK, aasK, alnK, zgt_u, zgt_a, Option.toList_some, Option.toList_none, List.cons_append, List.nil_append, List.map_cons, List.map_nil, List.replicate, ite_true, ite_false, if_true, if_false, List.getElem?_cons_zero, List.getElem?_cons_succ, List.set_cons_zero, List.set_cons_succ, true_and, and_true, beq_self_eq_true, zite, Int.toNat_natCast, if_pos, if_neg, zwr_id, zand, hO, s_isIn, zb_eq, zb_ne, mX_rc hX, s6_isCovered hX hT hV, zb_t hc]
      · rw [zb_f hc]
        simp (disch := omega) only [e_142, w_142_0, w_142_1, w_142_2, w_142_3, w_142_4, w_142_5, w_142_6, w_142_7, w_142_8, w_142_9, w_142_10, w_142_11, w_142_12, w_142_13, w_142_14, w_142_15, w_142_16, w_142_17, w_142_18, w_142_19, w_142_20, w_142_21, w_142_22, w_142_23, w_142_24, w_142_25, w_142_26, w_142_27, w_142_28, w_142_29, w_142_30, w_142_31, w_142_32, w_142_33, w_142_34, w_142_35, w_142_36, w_142_37, w_142_38, w_142_39, w_142_40, w_142_41, getK, putK, ialK, iasK, aalK, aasK, alnK, zgt_u, zgt_a, Option.toList_some, Option.toList_none, List.cons_append, List.nil_append, List.map_cons, List.map_nil, List.replicate, ite_true, ite_false, if_true, if_false, List.getElem?_cons_zero, List.getElem?_cons_succ, List.set_cons_zero, List.set_cons_succ, true_and, and_true, beq_self_eq_true, zite, Int.toNat_natCast, if_pos, if_neg, zwr_id, zand, hO, s_isIn, zb_eq, zb_ne, mX_rc hX, s6_isCovered hX hT hV, zb_f hc]
    · rw [if_neg (by omega), if_neg (by omega), if_neg (by omega), if_neg (by omega), if_neg (by omega)]
      simp (disch := omega) only [e_142, w_142_0, w_142_1, w_142_2, w_142_3, w_142_4, w_142_5, w_142_6, w_142_7, w_142_8, w_142_9, w_142_10, w_142_11, w_142_12, w_142_13, w_142_14, w_142_15, w_142_16, w_142_17, w_142_18, w_142_19, w_142_20, w_142_21, w_142_22, w_142_23, w_142_24, w_142_25, w_142_26, w_142_27, w_142_28, w_142_29, w_142_30, w_142_31, w_142_32, w_142_33, w_142_34, w_142_35, w_142_36, w_142_37, w_142_38, w_142_39, w_142_40, w_142_41, getK, putK, ialK, iasK, aalK, aasK, alnK, zgt_u, zgt_a, Option.toList_some, Option.toList_none, List.cons_append, List.nil_append, List.map_cons, List.map_nil, List.replicate, ite_true, ite_false, if_true, if_false, List.getElem?_cons_zero, List.getElem?_cons_succ, List.set_cons_zero, List.set_cons_succ, true_and, and_true, beq_self_eq_true, zite, Int.toNat_natCast, if_pos, if_neg, zwr_id, zand, hO, s_isIn, zb_eq, zb_ne]
  · rw [if_neg h1]
    have h1' : ¬ (0 ≤ i ∧ i ≤ z.n - 1) := by omega
    simp (disch := omega) only [e_142, w_142_0, w_142_1, w_142_2, w_142_3, w_142_4, w_142_5, w_142_6, w_142_7, w_142_8, w_142_9, w_142_10, w_142_11, w_142_12, w_142_13, w_142_14, w_142_15, w_142_16, w_142_17, w_142_18, w_142_19, w_142_20, w_142_21, w_142_22, w_142_23, w_142_24, w_142_25, w_142_26, w_142_27, w_142_28, w_142_29, w_142_30, w_142_31, w_142_32, w_142_33, w_142_34, w_142_35, w_142_36, w_142_37, w_142_38, w_142_39, w_142_40, w_142_41, getK, putK, ialK, iasK, aalK, aasK, alnK, zgt_u, zgt_a, Option.toList_some, Option.toList_none, List.cons_append, List.nil_append, List.map_cons, List.map_nil, List.replicate, ite_true, ite_false, if_true, if_false, List.getElem?_cons_zero, List.getElem?_cons_succ, List.set_cons_zero, List.set_cons_succ, true_and, and_true, beq_self_eq_true, zite, Int.toNat_natCast, if_pos, if_neg, zwr_id, zand, hO, s_isIn, zb_eq, zb_ne]
theorem s6_mean (hM : rM h z) (hz : okZ z) : zca sc 150 [.inr (.inl (some 24))] h Q = Q (some (.inr (.inr (.inl (meS z))))) h := by
  obtain ⟨w, hX, hV⟩ := mX_of hM hz
  have hT := hz.2.2.2.2.2.2
  have hb := mtS_b hz
  unfold meS
  have e1 : ∀ Q : Option zV → zH → Prop, zca sc 143 [.inr (.inl (some 24))] h Q = Q (some (.inl (mtS z))) h := fun Q => by rw [s6_matches hX hT hV, mtS_m hz]
  have e2 : ∀ Q : Option zV → zH → Prop, zca sc 144 [.inr (.inl (some 24))] h Q = Q (some (.inl (wmS z))) h := fun Q => by rw [s6_weights hX hT hV, wmS_m hz]
  by_cases k : mtS z = 0
  · rw [if_pos k]
    simp (disch := omega) only [e_150, w_150_0, w_150_1, w_150_2, w_150_3, w_150_4, w_150_5, w_150_6, w_150_7, w_150_8, w_150_9, w_150_10, w_150_11, w_150_12, getK, putK, ialK, iasK, aalK, aasK, alnK, zgt_u, zgt_a, Option.toList_some, Option.toList_none, List.cons_append, List.nil_append, List.map_cons, List.map_nil, List.replicate, ite_true, ite_false, if_true, if_false, List.getElem?_cons_zero, List.getElem?_cons_succ, List.set_cons_zero, List.set_cons_succ, true_and, and_true, beq_self_eq_true, zite, Int.toNat_natCast, if_pos, if_neg, zwr_id, zand, mX_rc hX, e1, k]
  · rw [if_neg k]
    have hn := fdiv_ok (a := wmS z) (b := mtS z) (by omega) hb.2
    simp (disch := omega) only [e_150, w_150_0, w_150_1, w_150_2, w_150_3, w_150_4, w_150_5, w_150_6, w_150_7, w_150_8, w_150_9, w_150_10, w_150_11, w_150_12, getK, putK, ialK, iasK, aalK, aasK, alnK, zgt_u, zgt_a, Option.toList_some, Option.toList_none, List.cons_append, List.nil_append, List.map_cons, List.map_nil, List.replicate, ite_true, ite_false, if_true, if_false, List.getElem?_cons_zero, List.getElem?_cons_succ, List.set_cons_zero, List.set_cons_succ, true_and, and_true, beq_self_eq_true, zite, Int.toNat_natCast, if_pos, if_neg, zwr_id, zand, mX_rc hX, e1, e2, hn]
theorem s6_find {k a : Int} (hM : rM h z) (hz : okZ z) (hk : k ≤ 2147483647) : zca sc 149 [.inr (.inl (some 24)), .inl k, .inl a] h Q = Q (some (.inl (fnS z k a))) h := by
  obtain ⟨w, hX, hV⟩ := mX_of hM hz
  have hT := hz.2.2.2.2.2.2
  have h00 := hT.1
  have hp := okZ_p hz
  have hO := hX.1
  unfold fnS
  by_cases h1 : 0 ≤ k
  · by_cases h2 : 0 ≤ a ∧ a ≤ 1
    · rw [if_pos ⟨h1, h2⟩]
      by_cases h4 : a = 0
      · subst h4
        by_cases h5 : z.p = 0
        · rw [if_pos ⟨rfl, h5⟩]
          simp (disch := omega) only [e_149, w_149_0, w_149_1, w_149_2, w_149_3, w_149_4, w_149_5, w_149_6, w_149_7, w_149_8, w_149_9, w_149_10, w_149_11, w_149_12, w_149_13, w_149_14, w_149_15, w_149_16, w_149_17, w_149_18, w_149_19, w_149_21, w_149_22, w_149_23, w_149_24, w_149_25, w_149_26, w_149_27, w_149_28, w_149_29, w_149_30, w_149_31, w_149_32, w_149_33, w_149_34, w_149_35, w_149_36, w_149_37, w_149_38, w_149_39, w_149_40, w_149_41, w_149_42, w_149_43, w_149_44, w_149_45, getK, putK, ialK, iasK, aalK, aasK, alnK, zgt_u, zgt_a, Option.toList_some, Option.toList_none, List.cons_append, List.nil_append, List.map_cons, List.map_nil, List.replicate, ite_true, ite_false, if_true, if_false, List.getElem?_cons_zero, List.getElem?_cons_succ, List.set_cons_zero, List.set_cons_succ, true_and, and_true, beq_self_eq_true, zite, Int.toNat_natCast, if_pos, if_neg, zwr_id, zand, hO, s_isIn, zb_eq, zb_ne, h5]
        · rw [if_neg (fun q => h5 q.2), if_pos rfl]
          simp (disch := omega) only [e_149, w_149_0, w_149_1, w_149_2, w_149_3, w_149_4, w_149_5, w_149_6, w_149_7, w_149_8, w_149_9, w_149_10, w_149_11, w_149_12, w_149_13, w_149_14, w_149_15, w_149_16, w_149_17, w_149_18, w_149_19, w_149_21, w_149_22, w_149_23, w_149_24, w_149_25, w_149_26, w_149_27, w_149_28, w_149_29, w_149_30, w_149_31, w_149_32, w_149_33, w_149_34, w_149_35, w_149_36, w_149_37, w_149_38, w_149_39, w_149_40, w_149_41, w_149_42, w_149_43, w_149_44, w_149_45, getK, putK, ialK, iasK, aalK, aasK, alnK, zgt_u, zgt_a, Option.toList_some, Option.toList_none, List.cons_append, List.nil_append, List.map_cons, List.map_nil, List.replicate, ite_true, ite_false, if_true, if_false, List.getElem?_cons_zero, List.getElem?_cons_succ, List.set_cons_zero, List.set_cons_succ, true_and, and_true, beq_self_eq_true, zite, Int.toNat_natCast, if_pos, if_neg, zwr_id, zand, hO, s_isIn, zb_eq, zb_ne]
          rw [lp_find60 (l3' := 0) hX hT hV ⟨by omega, by omega⟩ z.n.toNat 0 k (by omega) (by omega) h1 (Int.le_refl _) hk]
      · rw [if_neg (fun q => h4 q.1), if_neg h4]
        have h4 : a = 1 := by omega
        subst h4
        simp (disch := omega) only [e_149, w_149_0, w_149_1, w_149_2, w_149_3, w_149_4, w_149_5, w_149_6, w_149_7, w_149_8, w_149_9, w_149_10, w_149_11, w_149_12, w_149_13, w_149_14, w_149_15, w_149_16, w_149_17, w_149_18, w_149_19, w_149_21, w_149_22, w_149_23, w_149_24, w_149_25, w_149_26, w_149_27, w_149_28, w_149_29, w_149_30, w_149_31, w_149_32, w_149_33, w_149_34, w_149_35, w_149_36, w_149_37, w_149_38, w_149_39, w_149_40, w_149_41, w_149_42, w_149_43, w_149_44, w_149_45, getK, putK, ialK, iasK, aalK, aasK, alnK, zgt_u, zgt_a, Option.toList_some, Option.toList_none, List.cons_append, List.nil_append, List.map_cons, List.map_nil, List.replicate, ite_true, ite_false, if_true, if_false, List.getElem?_cons_zero, List.getElem?_cons_succ, List.set_cons_zero, List.set_cons_succ, true_and, and_true, beq_self_eq_true, zite, Int.toNat_natCast, if_pos, if_neg, zwr_id, zand, hO, s_isIn, zb_eq, zb_ne]
        rw [lp_find61 hX hT hV z.n.toNat 0 k (by omega) (by omega) h1 (Int.le_refl _) hk]
        rw [fiF_cg (f := fun i => decide (0 < ((mN z.S.1 z.T i 6 1).length : Int))) z.n.toNat 0 k (fun m u v => by rw [mN_z hz (by omega)])]
    · rw [if_neg (fun q => h2 q.2)]
      simp (disch := omega) only [e_149, w_149_0, w_149_1, w_149_2, w_149_3, w_149_4, w_149_5, w_149_6, w_149_7, w_149_8, w_149_9, w_149_10, w_149_11, w_149_12, w_149_13, w_149_14, w_149_15, w_149_16, w_149_17, w_149_18, w_149_19, w_149_21, w_149_22, w_149_23, w_149_24, w_149_25, w_149_26, w_149_27, w_149_28, w_149_29, w_149_30, w_149_31, w_149_32, w_149_33, w_149_34, w_149_35, w_149_36, w_149_37, w_149_38, w_149_39, w_149_40, w_149_41, w_149_42, w_149_43, w_149_44, w_149_45, getK, putK, ialK, iasK, aalK, aasK, alnK, zgt_u, zgt_a, Option.toList_some, Option.toList_none, List.cons_append, List.nil_append, List.map_cons, List.map_nil, List.replicate, ite_true, ite_false, if_true, if_false, List.getElem?_cons_zero, List.getElem?_cons_succ, List.set_cons_zero, List.set_cons_succ, true_and, and_true, beq_self_eq_true, zite, Int.toNat_natCast, if_pos, if_neg, zwr_id, zand, hO, s_isIn, zb_eq, zb_ne]
  · rw [if_neg (fun q => h1 q.1)]
    simp (disch := omega) only [e_149, w_149_0, w_149_1, w_149_2, w_149_3, w_149_4, w_149_5, w_149_6, w_149_7, w_149_8, w_149_9, w_149_10, w_149_11, w_149_12, w_149_13, w_149_14, w_149_15, w_149_16, w_149_17, w_149_18, w_149_19, w_149_21, w_149_22, w_149_23, w_149_24, w_149_25, w_149_26, w_149_27, w_149_28, w_149_29, w_149_30, w_149_31, w_149_32, w_149_33, w_149_34, w_149_35, w_149_36, w_149_37, w_149_38, w_149_39, w_149_40, w_149_41, w_149_42, w_149_43, w_149_44, w_149_45, getK, putK, ialK, iasK, aalK, aasK, alnK, zgt_u, zgt_a, Option.toList_some, Option.toList_none, List.cons_append, List.nil_append, List.map_cons, List.map_nil, List.replicate, ite_true, ite_false, if_true, if_false, List.getElem?_cons_zero, List.getElem?_cons_succ, List.set_cons_zero, List.set_cons_succ, true_and, and_true, beq_self_eq_true, zite, Int.toNat_natCast, if_pos, if_neg, zwr_id, zand, hO]
end
