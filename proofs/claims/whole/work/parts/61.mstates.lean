/-! THE MODEL'S STATES -/
section
variable {sc : Nat × (Int → Int)} {h : zH} {Q : Option zV → zH → Prop} {pm fl p n : Int} {w pa im : Int → Int}
theorem lp_rem1 : ∀ (j : Nat) (k : Int) (h : zH) (pa' : Int → Int), k + j = 3059 → 0 ≤ k → zgt h 24 = .inl (6, [.inr (.inl (some 25)), .inr (.inl (some 26)), .inl (pm), .inr (.inl (some 27)), .inl ( fl), .inl ( p), .inr (.inl (some 28)), .inl ( n), .inr (.inl (some 29)), .inr (.inl (some 30)), .inr (.inl (some 31))]) → zgt h 26 = .inr (.inl (3496, pa')) → (∀ i, 0 ≤ i → i < k → pa' i = pa (i + 437)) → (∀ i, k ≤ i → pa' i = pa i) → (∀ h' pa'' l1, zgt h' 26 = .inr (.inl (3496, pa'')) → (∀ i, 0 ≤ i → i < 3059 → pa'' i = pa (i + 437)) → fr h h' 26 1 → zwp sc 92 21 [some (.inr (.inl (some 24))), l1] [] h' Q) → zwp sc 92 6 [some (.inr (.inl (some 24))), some (.inl k)] [] h Q := by
  intro j
  induction j with
  | zero =>
    intro k h pa' hk h0 hO hP h1 h2 hQ
    have := hQ h pa' (some (.inl k)) hP (fun i a b => h1 i a (by omega)) fr_rf
    rw [w_92_6]
    simp (disch := omega) only [e_92, w_92_7, w_92_8, w_92_9, w_92_10, w_92_11, w_92_12, w_92_13, w_92_14, w_92_15, w_92_16, w_92_17, w_92_18, w_92_19, w_92_20, getK, putK, ialK, iasK, aalK, aasK, alnK, zgt_u, zgt_a, Option.toList_some, Option.toList_none, List.cons_append, List.nil_append, List.map_cons, List.map_nil, List.replicate, ite_true, ite_false, if_true, if_false, List.getElem?_cons_zero, List.getElem?_cons_succ, List.set_cons_zero, List.set_cons_succ, true_and, and_true, beq_self_eq_true, zite, Int.toNat_natCast, if_pos, if_neg, zwr_id, zand, hO]
    exact this
  | succ j ih =>
    intro k h pa' hk h0 hO hP h1 h2 hQ
    have hx := h2 (k + 437) (by omega)
    rw [w_92_6]
    simp (disch := omega) only [e_92, w_92_7, w_92_8, w_92_9, w_92_10, w_92_11, w_92_12, w_92_13, w_92_14, w_92_15, w_92_16, w_92_17, w_92_18, w_92_19, w_92_20, getK, putK, ialK, iasK, aalK, aasK, alnK, zgt_u, zgt_a, Option.toList_some, Option.toList_none, List.cons_append, List.nil_append, List.map_cons, List.map_nil, List.replicate, ite_true, ite_false, if_true, if_false, List.getElem?_cons_zero, List.getElem?_cons_succ, List.set_cons_zero, List.set_cons_succ, true_and, and_true, beq_self_eq_true, zite, Int.toNat_natCast, if_pos, if_neg, zwr_id, zand, hO, hP, hx, Nat.reduceEqDiff]
    refine ih (k + 1) _ (zup pa' k (pa (k + 437))) (by omega) (by omega) ?_ ?_ (fun i a b => ?_) (fun i a => ?_) (fun h' pa'' l1 a1 a2 a3 => hQ h' pa'' l1 a1 a2 (fr_tr (fr_u fr_rf (by omega) (by omega)) a3))
    · simp (disch := omega) only [zgt_u, zgt_a, if_pos, if_neg, if_true, if_false, ite_true, ite_false]
      exact hO
    · simp (disch := omega) only [zgt_u, zgt_a, if_pos, if_neg, if_true, if_false, ite_true, ite_false]
    · by_cases e : i = k
      · rw [e, zup_s]
      · rw [zup_n e]; exact h1 i a (by omega)
    · rw [zup_n (by omega)]; exact h2 i (by omega)
theorem lp_rem2 (hpm : 0 ≤ pm ∧ pm ≤ 7) : ∀ (j : Nat) (k : Int) (h : zH) (pa' : Int → Int), k + j = 437 → 0 ≤ k → zgt h 24 = .inl (6, [.inr (.inl (some 25)), .inr (.inl (some 26)), .inl (pm), .inr (.inl (some 27)), .inl ( fl), .inl ( p), .inr (.inl (some 28)), .inl ( n), .inr (.inl (some 29)), .inr (.inl (some 30)), .inr (.inl (some 31))]) → zgt h 25 = .inr (.inl (437, w)) → zgt h 26 = .inr (.inl (3496, pa')) → (∀ i, 0 ≤ i → i < k → pa' (437 * pm + i) = w i) → (∀ i, i < 437 * pm → pa' i = pa i) → (∀ h' pa'', zgt h' 24 = .inl (6, [.inr (.inl (some 25)), .inr (.inl (some 26)), .inl (pm + 1), .inr (.inl (some 27)), .inl ( fl), .inl ( p), .inr (.inl (some 28)), .inl ( n), .inr (.inl (some 29)), .inr (.inl (some 30)), .inr (.inl (some 31))]) → zgt h' 26 = .inr (.inl (3496, pa'')) → (∀ i, 0 ≤ i → i < 437 → pa'' (437 * pm + i) = w i) → (∀ i, i < 437 * pm → pa'' i = pa i) → (∀ k, k ≠ 24 → k ≠ 26 → zgt h' k = zgt h k) → h'.1 = h.1 → h'.2.1 = h.2.1 → Q none h') → zwp sc 92 29 [some (.inr (.inl (some 24))), some (.inl k)] [] h Q := by
  intro j
  induction j with
  | zero =>
    intro k h pa' hk h0 hO hW hP h1 h2 hQ
    rw [w_92_29]
    simp (disch := omega) only [e_92, w_92_30, w_92_31, w_92_32, w_92_33, w_92_34, w_92_35, w_92_36, w_92_37, w_92_38, w_92_39, w_92_40, w_92_41, w_92_42, w_92_43, w_92_44, w_92_45, w_92_46, w_92_47, w_92_48, w_92_49, w_92_50, w_92_51, w_92_52, w_92_53, getK, putK, ialK, iasK, aalK, aasK, alnK, zgt_u, zgt_a, Option.toList_some, Option.toList_none, List.cons_append, List.nil_append, List.map_cons, List.map_nil, List.replicate, ite_true, ite_false, if_true, if_false, List.getElem?_cons_zero, List.getElem?_cons_succ, List.set_cons_zero, List.set_cons_succ, true_and, and_true, beq_self_eq_true, zite, Int.toNat_natCast, if_pos, if_neg, zwr_id, zand, hO]
    refine hQ _ pa' ?_ ?_ (fun i a b => h1 i a (by omega)) h2 (fun k a b => ?_) rfl rfl
    · simp (disch := omega) only [zgt_u, zgt_a, if_pos, if_neg, if_true, if_false, ite_true, ite_false]
    · simp (disch := omega) only [zgt_u, zgt_a, if_pos, if_neg, if_true, if_false, ite_true, ite_false]
      exact hP
    · rw [zgt_u, if_neg a]
  | succ j ih =>
    intro k h pa' hk h0 hO hW hP h1 h2 hQ
    rw [w_92_29]
    simp (disch := omega) only [e_92, w_92_30, w_92_31, w_92_32, w_92_33, w_92_34, w_92_35, w_92_36, w_92_37, w_92_38, w_92_39, w_92_40, w_92_41, w_92_42, w_92_43, w_92_44, w_92_45, w_92_46, w_92_47, w_92_48, w_92_49, w_92_50, w_92_51, w_92_52, w_92_53, getK, putK, ialK, iasK, aalK, aasK, alnK, zgt_u, zgt_a, Option.toList_some, Option.toList_none, List.cons_append, List.nil_append, List.map_cons, List.map_nil, List.replicate, ite_true, ite_false, if_true, if_false, List.getElem?_cons_zero, List.getElem?_cons_succ, List.set_cons_zero, List.set_cons_succ, true_and, and_true, beq_self_eq_true, zite, Int.toNat_natCast, if_pos, if_neg, zwr_id, zand, hO, hW, hP, Nat.reduceEqDiff]
    refine ih (k + 1) _ (zup pa' (437 * pm + k) (w k)) (by omega) (by omega) ?_ ?_ ?_ (fun i a b => ?_) (fun i a => ?_) (fun h' pa'' a1 a2 a3 a4 a5 a6 a7 => hQ h' pa'' a1 a2 a3 a4 (fun k a b => ?_) a6 a7)
    · simp (disch := omega) only [zgt_u, zgt_a, if_pos, if_neg, if_true, if_false, ite_true, ite_false]
      exact hO
    · simp (disch := omega) only [zgt_u, zgt_a, if_pos, if_neg, if_true, if_false, ite_true, ite_false]
      exact hW
    · simp (disch := omega) only [zgt_u, zgt_a, if_pos, if_neg, if_true, if_false, ite_true, ite_false]
    · by_cases e : i = k
      · rw [e, zup_s]
      · rw [zup_n (by omega)]; exact h1 i a (by omega)
    · rw [zup_n (by omega)]; exact h2 i a
    · rw [a5 k a b, zgt_u, if_neg b]
theorem lp_un (hpm : 0 ≤ pm ∧ pm ≤ 7) : ∀ (j : Nat) (k : Int) (h : zH) (w' : Int → Int), k + j = 437 → 0 ≤ k → zgt h 24 = .inl (6, [.inr (.inl (some 25)), .inr (.inl (some 26)), .inl (pm), .inr (.inl (some 27)), .inl ( fl), .inl ( p), .inr (.inl (some 28)), .inl ( n), .inr (.inl (some 29)), .inr (.inl (some 30)), .inr (.inl (some 31))]) → zgt h 25 = .inr (.inl (437, w')) → zgt h 26 = .inr (.inl (3496, pa)) → (∀ i, 0 ≤ i → i < k → w' i = pa (437 * pm + i)) → (∀ h' w'' l1, zgt h' 25 = .inr (.inl (437, w'')) → (∀ i, 0 ≤ i → i < 437 → w'' i = pa (437 * pm + i)) → fr h h' 25 1 → zwp sc 121 31 [some (.inr (.inl (some 24))), l1] [] h' Q) → zwp sc 121 13 [some (.inr (.inl (some 24))), some (.inl k)] [] h Q := by
  intro j
  induction j with
  | zero =>
    intro k h w' hk h0 hO hW hP h1 hQ
    have := hQ h w' (some (.inl k)) hW (fun i a b => h1 i a (by omega)) fr_rf
    rw [w_121_13]
    simp (disch := omega) only [e_121, w_121_14, w_121_15, w_121_16, w_121_17, w_121_18, w_121_19, w_121_20, w_121_21, w_121_22, w_121_23, w_121_24, w_121_25, w_121_26, w_121_27, w_121_28, w_121_29, w_121_30, getK, putK, ialK, iasK, aalK, aasK, alnK, zgt_u, zgt_a, Option.toList_some, Option.toList_none, List.cons_append, List.nil_append, List.map_cons, List.map_nil, List.replicate, ite_true, ite_false, if_true, if_false, List.getElem?_cons_zero, List.getElem?_cons_succ, List.set_cons_zero, List.set_cons_succ, true_and, and_true, beq_self_eq_true, zite, Int.toNat_natCast, if_pos, if_neg, zwr_id, zand, hO]
    exact this
  | succ j ih =>
    intro k h w' hk h0 hO hW hP h1 hQ
    rw [w_121_13]
    simp (disch := omega) only [e_121, w_121_14, w_121_15, w_121_16, w_121_17, w_121_18, w_121_19, w_121_20, w_121_21, w_121_22, w_121_23, w_121_24, w_121_25, w_121_26, w_121_27, w_121_28, w_121_29, w_121_30, getK, putK, ialK, iasK, aalK, aasK, alnK, zgt_u, zgt_a, Option.toList_some, Option.toList_none, List.cons_append, List.nil_append, List.map_cons, List.map_nil, List.replicate, ite_true, ite_false, if_true, if_false, List.getElem?_cons_zero, List.getElem?_cons_succ, List.set_cons_zero, List.set_cons_succ, true_and, and_true, beq_self_eq_true, zite, Int.toNat_natCast, if_pos, if_neg, zwr_id, zand, hO, hW, hP, Nat.reduceEqDiff]
    refine ih (k + 1) _ (zup w' k (pa (437 * pm + k))) (by omega) (by omega) ?_ ?_ ?_ (fun i a b => ?_) (fun h' w'' l1 a1 a2 a3 => hQ h' w'' l1 a1 a2 (fr_tr (fr_u fr_rf (by omega) (by omega)) a3))
    · simp (disch := omega) only [zgt_u, zgt_a, if_pos, if_neg, if_true, if_false, ite_true, ite_false]
      exact hO
    · simp (disch := omega) only [zgt_u, zgt_a, if_pos, if_neg, if_true, if_false, ite_true, ite_false]
    · simp (disch := omega) only [zgt_u, zgt_a, if_pos, if_neg, if_true, if_false, ite_true, ite_false]
      exact hP
    · by_cases e : i = k
      · rw [e, zup_s]
      · rw [zup_n (by omega)]; exact h1 i a (by omega)
theorem lp_ba {i : Int} (hi : 0 ≤ i ∧ i ≤ 1) : ∀ (j : Nat) (k : Int) (h : zH) (w' : Int → Int), k + j = 437 → 0 ≤ k → zgt h 24 = .inl (6, [.inr (.inl (some 25)), .inr (.inl (some 26)), .inl (pm), .inr (.inl (some 27)), .inl ( fl), .inl ( p), .inr (.inl (some 28)), .inl ( n), .inr (.inl (some 29)), .inr (.inl (some 30)), .inr (.inl (some 31))]) → zgt h 25 = .inr (.inl (437, w')) → zgt h 27 = .inr (.inl (874, im)) → (∀ m, 0 ≤ m → m < k → w' m = im (437 * i + m)) → (∀ h' w'' l1, zgt h' 25 = .inr (.inl (437, w'')) → (∀ m, 0 ≤ m → m < 437 → w'' m = im (437 * i + m)) → fr h h' 25 1 → zwp sc 153 35 [some (.inr (.inl (some 24))), some (.inl i), l1] [] h' Q) → zwp sc 153 18 [some (.inr (.inl (some 24))), some (.inl i), some (.inl k)] [] h Q := by
  intro j
  induction j with
  | zero =>
    intro k h w' hk h0 hO hW hP h1 hQ
    have := hQ h w' (some (.inl k)) hW (fun i a b => h1 i a (by omega)) fr_rf
    rw [w_153_18]
    simp (disch := omega) only [e_153, w_153_19, w_153_20, w_153_21, w_153_22, w_153_23, w_153_24, w_153_25, w_153_26, w_153_27, w_153_28, w_153_29, w_153_30, w_153_31, w_153_32, w_153_33, w_153_34, getK, putK, ialK, iasK, aalK, aasK, alnK, zgt_u, zgt_a, Option.toList_some, Option.toList_none, List.cons_append, List.nil_append, List.map_cons, List.map_nil, List.replicate, ite_true, ite_false, if_true, if_false, List.getElem?_cons_zero, List.getElem?_cons_succ, List.set_cons_zero, List.set_cons_succ, true_and, and_true, beq_self_eq_true, zite, Int.toNat_natCast, if_pos, if_neg, zwr_id, zand, hO]
    exact this
  | succ j ih =>
    intro k h w' hk h0 hO hW hP h1 hQ
    rw [w_153_18]
    simp (disch := omega) only [e_153, w_153_19, w_153_20, w_153_21, w_153_22, w_153_23, w_153_24, w_153_25, w_153_26, w_153_27, w_153_28, w_153_29, w_153_30, w_153_31, w_153_32, w_153_33, w_153_34, getK, putK, ialK, iasK, aalK, aasK, alnK, zgt_u, zgt_a, Option.toList_some, Option.toList_none, List.cons_append, List.nil_append, List.map_cons, List.map_nil, List.replicate, ite_true, ite_false, if_true, if_false, List.getElem?_cons_zero, List.getElem?_cons_succ, List.set_cons_zero, List.set_cons_succ, true_and, and_true, beq_self_eq_true, zite, Int.toNat_natCast, if_pos, if_neg, zwr_id, zand, hO, hW, hP, Nat.reduceEqDiff]
    refine ih (k + 1) _ (zup w' k (im (437 * i + k))) (by omega) (by omega) ?_ ?_ ?_ (fun m a b => ?_) (fun h' w'' l1 a1 a2 a3 => hQ h' w'' l1 a1 a2 (fr_tr (fr_u fr_rf (by omega) (by omega)) a3))
    · simp (disch := omega) only [zgt_u, zgt_a, if_pos, if_neg, if_true, if_false, ite_true, ite_false]
      exact hO
    · simp (disch := omega) only [zgt_u, zgt_a, if_pos, if_neg, if_true, if_false, ite_true, ite_false]
    · simp (disch := omega) only [zgt_u, zgt_a, if_pos, if_neg, if_true, if_false, ite_true, ite_false]
      exact hP
    · by_cases e : m = k
      · rw [e, zup_s]
      · rw [zup_n (by omega)]; exact h1 m a (by omega)
theorem lp_ke {i : Int} (hi : 0 ≤ i ∧ i ≤ 1) : ∀ (j : Nat) (k : Int) (h : zH) (im' : Int → Int), k + j = 437 → 0 ≤ k → zgt h 24 = .inl (6, [.inr (.inl (some 25)), .inr (.inl (some 26)), .inl (pm), .inr (.inl (some 27)), .inl ( fl), .inl ( p), .inr (.inl (some 28)), .inl ( n), .inr (.inl (some 29)), .inr (.inl (some 30)), .inr (.inl (some 31))]) → zgt h 25 = .inr (.inl (437, w)) → zgt h 27 = .inr (.inl (874, im')) → (∀ m, 0 ≤ m → m < k → im' (437 * i + m) = w m) → (∀ m, (m < 437 * i ∨ 437 * i + 437 ≤ m) → im' m = im m) → (∀ h' im'' l1, zgt h' 27 = .inr (.inl (874, im'')) → (∀ m, 0 ≤ m → m < 437 → im'' (437 * i + m) = w m) → (∀ m, (m < 437 * i ∨ 437 * i + 437 ≤ m) → im'' m = im m) → fr h h' 27 1 → zwp sc 152 24 [some (.inr (.inl (some 24))), some (.inl i), l1] [] h' Q) → zwp sc 152 7 [some (.inr (.inl (some 24))), some (.inl i), some (.inl k)] [] h Q := by
  intro j
  induction j with
  | zero =>
    intro k h im' hk h0 hO hW hP h1 h2 hQ
    have := hQ h im' (some (.inl k)) hP (fun i a b => h1 i a (by omega)) h2 fr_rf
    rw [w_152_7]
    simp (disch := omega) only [e_152, w_152_8, w_152_9, w_152_10, w_152_11, w_152_12, w_152_13, w_152_14, w_152_15, w_152_16, w_152_17, w_152_18, w_152_19, w_152_20, w_152_21, w_152_22, w_152_23, getK, putK, ialK, iasK, aalK, aasK, alnK, zgt_u, zgt_a, Option.toList_some, Option.toList_none, List.cons_append, List.nil_append, List.map_cons, List.map_nil, List.replicate, ite_true, ite_false, if_true, if_false, List.getElem?_cons_zero, List.getElem?_cons_succ, List.set_cons_zero, List.set_cons_succ, true_and, and_true, beq_self_eq_true, zite, Int.toNat_natCast, if_pos, if_neg, zwr_id, zand, hO]
    exact this
  | succ j ih =>
    intro k h im' hk h0 hO hW hP h1 h2 hQ
    rw [w_152_7]
    simp (disch := omega) only [e_152, w_152_8, w_152_9, w_152_10, w_152_11, w_152_12, w_152_13, w_152_14, w_152_15, w_152_16, w_152_17, w_152_18, w_152_19, w_152_20, w_152_21, w_152_22, w_152_23, getK, putK, ialK, iasK, aalK, aasK, alnK, zgt_u, zgt_a, Option.toList_some, Option.toList_none, List.cons_append, List.nil_append, List.map_cons, List.map_nil, List.replicate, ite_true, ite_false, if_true, if_false, List.getElem?_cons_zero, List.getElem?_cons_succ, List.set_cons_zero, List.set_cons_succ, true_and, and_true, beq_self_eq_true, zite, Int.toNat_natCast, if_pos, if_neg, zwr_id, zand, hO, hW, hP, Nat.reduceEqDiff]
    refine ih (k + 1) _ (zup im' (437 * i + k) (w k)) (by omega) (by omega) ?_ ?_ ?_ (fun m a b => ?_) (fun m a => ?_) (fun h' im'' l1 a1 a2 a3 a4 => hQ h' im'' l1 a1 a2 a3 (fr_tr (fr_u fr_rf (by omega) (by omega)) a4))
    · simp (disch := omega) only [zgt_u, zgt_a, if_pos, if_neg, if_true, if_false, ite_true, ite_false]
      exact hO
    · simp (disch := omega) only [zgt_u, zgt_a, if_pos, if_neg, if_true, if_false, ite_true, ite_false]
      exact hW
    · simp (disch := omega) only [zgt_u, zgt_a, if_pos, if_neg, if_true, if_false, ite_true, ite_false]
    · by_cases e : m = k
      · rw [e, zup_s]
      · rw [zup_n (by omega)]; exact h1 m a (by omega)
    · rw [zup_n (by omega)]; exact h2 m a
end
section
variable {sc : Nat × (Int → Int)} {h : zH} {Q : Option zV → zH → Prop} {z : zS}
theorem s6_remember (hM : rM h z) (hz : okZ z) (hQ : ∀ h', rM h' (z.uS z.S (psh z.S z.H)) → fr h h' 24 8 → Q none h') : zca sc 92 [.inr (.inl (some 24))] h Q := by
  obtain ⟨m0, ⟨w, m1, m1'⟩, ⟨pa, m2, m2'⟩, ⟨im, m3, m3'⟩, m4, ⟨f5, m5⟩, ⟨f6, m6⟩, f7, m7⟩ := id hM
  have h8 := hz.2.2.1
  have hokp : ∀ D ∈ psh z.S z.H, okDt D := fun D hD => by
    rcases psh_mem hD with q | q
    · rw [q]; exact hz.1
    · exact hz.2.1 D q
  have key : ∀ (h1 : zH) (pa1 : Int → Int) (pm : Nat) (l1 : Option zV), pm ≤ 7 → zgt h1 24 = .inl (6, [.inr (.inl (some 25)), .inr (.inl (some 26)), .inl (pm), .inr (.inl (some 27)), .inl ( fil z.I0 z.I1), .inl ( z.p), .inr (.inl (some 28)), .inl ( z.n), .inr (.inl (some 29)), .inr (.inl (some 30)), .inr (.inl (some 31))]) → zgt h1 26 = .inr (.inl (3496, pa1)) → (∀ k, k ≠ 24 → k ≠ 26 → zgt h1 k = zgt h k) → h1.1 = h.1 → h1.2.1 = h.2.1 → (psh z.S z.H).length = pm + 1 → (∀ j : Nat, j < pm → ∃ D, (psh z.S z.H)[j + 1]? = some D ∧ rW (fun k => pa1 (437 * (pm - 1 - j) + k)) D) → zwp sc 92 27 [some (.inr (.inl (some 24))), l1] [] h1 Q := by
    intro h1 pa1 pm l1 hpm c24 c26 co ca cb hlen hj
    have c25 : zgt h1 25 = _ := (co 25 (by omega) (by omega)).trans m1
    simp (disch := omega) only [e_92, w_92_27, w_92_28, getK, putK, ialK, iasK, aalK, aasK, alnK, zgt_u, zgt_a, Option.toList_some, Option.toList_none, List.cons_append, List.nil_append, List.map_cons, List.map_nil, List.replicate, ite_true, ite_false, if_true, if_false, List.getElem?_cons_zero, List.getElem?_cons_succ, List.set_cons_zero, List.set_cons_succ, true_and, and_true, beq_self_eq_true, zite, Int.toNat_natCast, if_pos, if_neg, zwr_id, zand]
    refine lp_rem2 (pa := pa1) (w := w) ⟨by omega, by omega⟩ 437 0 h1 pa1 (by omega) (by omega) c24 c25 c26 (fun i a b => by omega) (fun _ _ => rfl) (fun h' pa'' d1 d2 d3 d4 d5 d6 d7 => ?_)
    have dd : ∀ k, k ≠ 24 → k ≠ 26 → zgt h' k = zgt h k := fun k a b => (d5 k a b).trans (co k a b)
    refine hQ h' ⟨?_, ⟨w, ?_, m1'⟩, ⟨pa'', d2, ?_⟩, ⟨im, ?_, m3'⟩, ?_, ⟨f5, ?_⟩, ⟨f6, ?_⟩, f7, ?_⟩ ⟨d6.trans ca, d7.trans cb, fun k hk => dd k (by omega) (by omega)⟩
    · rw [d1, hlen]; rfl
    · rw [dd _ (by omega) (by omega)]; exact m1
    · intro j hjl
      have hjl : j < (psh z.S z.H).length := hjl
      show ∃ D, (psh z.S z.H)[j]? = some D ∧ rW (fun k => pa'' (437 * (((psh z.S z.H).length : Int) - 1 - j) + k)) D
      rw [hlen] at hjl ⊢
      cases j with
      | zero =>
        refine ⟨z.S, ?_, rW_eq m1' hz.1 (fun k a b => ?_)⟩
        · rw [(psh_at (by omega)).2.1]; rfl
        · have := d3 k a b
          rw [show 437 * (((pm + 1 : Nat) : Int) - 1 - ((0 : Nat) : Int)) + k = 437 * (pm : Int) + k by omega]
          exact this
      | succ j =>
        obtain ⟨D, e1, e2⟩ := hj j (by omega)
        refine ⟨D, e1, rW_eq e2 (hokp D (List.mem_of_getElem? e1)) (fun k a b => ?_)⟩
        rw [show 437 * (((pm + 1 : Nat) : Int) - 1 - ((j + 1 : Nat) : Int)) + k = 437 * ((pm : Int) - 1 - j) + k by omega]
        exact d4 _ (by omega)
    · rw [dd _ (by omega) (by omega)]; exact m3
    · rw [dd _ (by omega) (by omega)]; exact m4
    · rw [dd _ (by omega) (by omega)]; exact m5
    · rw [dd _ (by omega) (by omega)]; exact m6
    · rw [dd _ (by omega) (by omega)]; exact m7
  have hlp := psh_len (S := z.S) h8
  by_cases hl : z.H.length = 8
  · have hl' : (z.H.length : Int) = 8 := by omega
    rw [if_pos (by omega)] at hlp
    simp (disch := omega) only [e_92, w_92_0, w_92_1, w_92_2, w_92_3, w_92_4, w_92_5, getK, putK, ialK, iasK, aalK, aasK, alnK, zgt_u, zgt_a, Option.toList_some, Option.toList_none, List.cons_append, List.nil_append, List.map_cons, List.map_nil, List.replicate, ite_true, ite_false, if_true, if_false, List.getElem?_cons_zero, List.getElem?_cons_succ, List.set_cons_zero, List.set_cons_succ, true_and, and_true, beq_self_eq_true, zite, Int.toNat_natCast, if_pos, if_neg, zwr_id, zand, m0, hl']
    refine lp_rem1 (pa := pa) 3059 0 h pa (by omega) (by omega) m0 m2 (fun i a b => by omega) (fun _ _ => rfl) (fun h1 pa1 l1 a1 a2 a3 => ?_)
    have m01 : zgt h1 24 = _ := (a3.2.2 24 (by omega)).trans m0
    simp (disch := omega) only [e_92, w_92_21, w_92_22, w_92_23, w_92_24, w_92_25, w_92_26, getK, putK, ialK, iasK, aalK, aasK, alnK, zgt_u, zgt_a, Option.toList_some, Option.toList_none, List.cons_append, List.nil_append, List.map_cons, List.map_nil, List.replicate, ite_true, ite_false, if_true, if_false, List.getElem?_cons_zero, List.getElem?_cons_succ, List.set_cons_zero, List.set_cons_succ, true_and, and_true, beq_self_eq_true, zite, Int.toNat_natCast, if_pos, if_neg, zwr_id, zand, m01, hl', Int.reduceSub]
    refine key _ pa1 7 _ (by omega) ?_ ?_ (fun k b1 b2 => ?_) a3.1 a3.2.1 (by omega) (fun j hj => ?_)
    · simp (disch := omega) only [zgt_u, zgt_a, if_pos, if_neg, if_true, if_false, ite_true, ite_false]
      rfl
    · simp (disch := omega) only [zgt_u, zgt_a, if_pos, if_neg, if_true, if_false, ite_true, ite_false]
      exact a1
    · rw [zgt_u, if_neg b1]; exact a3.2.2 k (by omega)
    · obtain ⟨D, e1, e2⟩ := m2' j (by omega)
      have hmD : D ∈ z.H := List.mem_of_getElem? e1
      refine ⟨D, ?_, rW_eq e2 (hz.2.1 D hmD) (fun k b1 b2 => ?_)⟩
      · rw [(psh_at (by omega)).2.1, List.getElem?_cons_succ]; exact e1
      · rw [hl', a2 _ (by omega) (by omega)]
        congr 1
        omega
  · rw [if_neg (by omega)] at hlp
    simp (disch := omega) only [e_92, w_92_0, w_92_1, w_92_2, w_92_3, w_92_4, w_92_5, w_92_7, w_92_8, w_92_9, w_92_10, w_92_11, w_92_12, w_92_13, w_92_14, w_92_15, w_92_16, w_92_17, w_92_18, w_92_19, w_92_20, w_92_21, w_92_22, w_92_23, w_92_24, w_92_25, w_92_26, getK, putK, ialK, iasK, aalK, aasK, alnK, zgt_u, zgt_a, Option.toList_some, Option.toList_none, List.cons_append, List.nil_append, List.map_cons, List.map_nil, List.replicate, ite_true, ite_false, if_true, if_false, List.getElem?_cons_zero, List.getElem?_cons_succ, List.set_cons_zero, List.set_cons_succ, true_and, and_true, beq_self_eq_true, zite, Int.toNat_natCast, if_pos, if_neg, zwr_id, zand, m0]
    refine key h pa z.H.length _ (by omega) m0 m2 (fun _ _ _ => rfl) rfl rfl (by omega) (fun j hj => ?_)
    obtain ⟨D, e1, e2⟩ := m2' j hj
    refine ⟨D, ?_, e2⟩
    rw [(psh_at (by omega)).2.1, List.getElem?_cons_succ]; exact e1
theorem rM_w {h' : zH} {w' : Int → Int} {S' : zDt} (hM : rM h z) (hf : fr h h' 25 1) (hW : zgt h' 25 = .inr (.inl (437, w'))) (hS : rW w' S') : rM h' (z.uS S' z.H) := by
  obtain ⟨m0, -, ⟨pa, m2, m2'⟩, ⟨im, m3, m3'⟩, m4, ⟨f5, m5⟩, ⟨f6, m6⟩, f7, m7⟩ := hM
  refine ⟨?_, ⟨w', hW, hS⟩, ⟨pa, ?_, m2'⟩, ⟨im, ?_, m3'⟩, ?_, ⟨f5, ?_⟩, ⟨f6, ?_⟩, f7, ?_⟩
  all_goals rw [hf.2.2 _ (by omega)]; assumption
theorem rM_mF (hM : rM h z) : ∃ w, mF h z.H.length (fil z.I0 z.I1) z.p z.n w ∧ rW w z.S := by
  obtain ⟨m0, ⟨w, m1, m1'⟩, -⟩ := hM
  exact ⟨w, ⟨m0, m1⟩, m1'⟩
theorem s6_undo (hM : rM h z) (hz : okZ z) (hQ : ∀ h', rM h' (unS z).2 → fr h h' 24 8 → Q (some (.inl (unS z).1)) h') : zca sc 121 [.inr (.inl (some 24))] h Q := by
  obtain ⟨m0, ⟨w, m1, m1'⟩, ⟨pa, m2, m2'⟩, ⟨im, m3, m3'⟩, m4, ⟨f5, m5⟩, ⟨f6, m6⟩, f7, m7⟩ := id hM
  have h8 := hz.2.2.1
  unfold unS at hQ
  cases hH : z.H with
  | nil =>
    rw [hH] at hQ
    have hl : (z.H.length : Int) = 0 := by rw [hH]; rfl
    simp (disch := omega) only [e_121, w_121_0, w_121_1, w_121_2, w_121_3, w_121_4, w_121_5, w_121_6, w_121_7, w_121_8, w_121_9, w_121_10, w_121_11, w_121_12, w_121_14, w_121_15, w_121_16, w_121_17, w_121_18, w_121_19, w_121_20, w_121_21, w_121_22, w_121_23, w_121_24, w_121_25, w_121_26, w_121_27, w_121_28, w_121_29, w_121_30, w_121_31, w_121_32, w_121_33, getK, putK, ialK, iasK, aalK, aasK, alnK, zgt_u, zgt_a, Option.toList_some, Option.toList_none, List.cons_append, List.nil_append, List.map_cons, List.map_nil, List.replicate, ite_true, ite_false, if_true, if_false, List.getElem?_cons_zero, List.getElem?_cons_succ, List.set_cons_zero, List.set_cons_succ, true_and, and_true, beq_self_eq_true, zite, Int.toNat_natCast, if_pos, if_neg, zwr_id, zand, m0, hl]
    exact hQ h hM fr_rf
  | cons D H =>
    rw [hH] at hQ
    have hl : (z.H.length : Int) = (H.length : Int) + 1 := by rw [hH]; rfl
    obtain ⟨D', e1, e2⟩ := m2' 0 (by omega)
    have hD : D' = D := by rw [hH] at e1; simpa using e1.symm
    subst hD
    have hokD : okDt D' := hz.2.1 D' (by rw [hH]; simp)
    simp (disch := omega) only [e_121, w_121_0, w_121_1, w_121_2, w_121_3, w_121_4, w_121_5, w_121_6, w_121_7, w_121_8, w_121_9, w_121_10, w_121_11, w_121_12, getK, putK, ialK, iasK, aalK, aasK, alnK, zgt_u, zgt_a, Option.toList_some, Option.toList_none, List.cons_append, List.nil_append, List.map_cons, List.map_nil, List.replicate, ite_true, ite_false, if_true, if_false, List.getElem?_cons_zero, List.getElem?_cons_succ, List.set_cons_zero, List.set_cons_succ, true_and, and_true, beq_self_eq_true, zite, Int.toNat_natCast, if_pos, if_neg, zwr_id, zand, m0, hl, Int.add_sub_cancel]
    refine lp_un (pa := pa) (pm := H.length) (fl := fil z.I0 z.I1) (p := z.p) (n := z.n) ⟨by omega, by omega⟩ 437 0 _ w (by omega) (by omega) ?_ ?_ ?_ (fun i a b => by omega) (fun h' w'' l1 a1 a2 a3 => ?_)
    · simp (disch := omega) only [zgt_u, zgt_a, if_pos, if_neg, if_true, if_false, ite_true, ite_false]
    · simp (disch := omega) only [zgt_u, zgt_a, if_pos, if_neg, if_true, if_false, ite_true, ite_false]
      exact m1
    · simp (disch := omega) only [zgt_u, zgt_a, if_pos, if_neg, if_true, if_false, ite_true, ite_false]
      exact m2
    have dd : ∀ k, k ≠ 24 → k ≠ 25 → zgt h' k = zgt h k := fun k a b => (a3.2.2 k (by omega)).trans (by rw [zgt_u, if_neg a])
    have d24 : zgt h' 24 = .inl (6, [.inr (.inl (some 25)), .inr (.inl (some 26)), .inl (H.length), .inr (.inl (some 27)), .inl ( fil z.I0 z.I1), .inl ( z.p), .inr (.inl (some 28)), .inl ( z.n), .inr (.inl (some 29)), .inr (.inl (some 30)), .inr (.inl (some 31))]) := (a3.2.2 24 (by omega)).trans (by rw [zgt_u, if_pos rfl])
    simp (disch := omega) only [e_121, w_121_31, w_121_32, w_121_33, getK, putK, ialK, iasK, aalK, aasK, alnK, zgt_u, zgt_a, Option.toList_some, Option.toList_none, List.cons_append, List.nil_append, List.map_cons, List.map_nil, List.replicate, ite_true, ite_false, if_true, if_false, List.getElem?_cons_zero, List.getElem?_cons_succ, List.set_cons_zero, List.set_cons_succ, true_and, and_true, beq_self_eq_true, zite, Int.toNat_natCast, if_pos, if_neg, zwr_id, zand, d24]
    refine hQ h' ⟨d24, ⟨w'', a1, rW_eq e2 hokD (fun k a b => ?_)⟩, ⟨pa, ?_, fun j hj => ?_⟩, ⟨im, ?_, m3'⟩, ?_, ⟨f5, ?_⟩, ⟨f6, ?_⟩, f7, ?_⟩ (fr_tr (fr_u fr_rf (by omega) (by omega)) (fr_wd a3 (by omega) (by omega)))
    · rw [a2 k a b, hl]
      congr 1
      omega
    · rw [dd _ (by omega) (by omega)]; exact m2
    · have hj : j < H.length := hj
      obtain ⟨E, g1, g2⟩ := m2' (j + 1) (by omega)
      refine ⟨E, by rw [hH] at g1; simpa using g1, ?_⟩
      have eq : ∀ k : Int, 437 * ((z.H.length : Int) - 1 - ((j + 1 : Nat) : Int)) + k = 437 * ((H.length : Int) - 1 - (j : Int)) + k := fun k => by omega
      simp only [eq] at g2
      exact g2
    · rw [dd _ (by omega) (by omega)]; exact m3
    · rw [dd _ (by omega) (by omega)]; exact m4
    · rw [dd _ (by omega) (by omega)]; exact m5
    · rw [dd _ (by omega) (by omega)]; exact m6
    · rw [dd _ (by omega) (by omega)]; exact m7
end
/-! which images are kept, as bits -/
theorem fil_b (I0 I1 : Option zDt) : fil I0 I1 = 0 ∨ fil I0 I1 = 1 ∨ fil I0 I1 = 2 ∨ fil I0 I1 = 3 := by
  unfold fil
  split <;> split <;> omega
theorem bt_0 {a : Int} (h : a = 0 ∨ a = 1 ∨ a = 2 ∨ a = 3) : (Int32.ofInt (Int32.ofInt a >>> (Int32.ofInt 0 &&& 31)).toInt &&& Int32.ofInt 1).toInt = a % 2 := by
  rcases h with rfl | rfl | rfl | rfl <;> decide
theorem bt_1 {a : Int} (h : a = 0 ∨ a = 1 ∨ a = 2 ∨ a = 3) : (Int32.ofInt (Int32.ofInt a >>> (Int32.ofInt 1 &&& 31)).toInt &&& Int32.ofInt 1).toInt = a / 2 := by
  rcases h with rfl | rfl | rfl | rfl <;> decide
theorem bo_0 {a : Int} (h : a = 0 ∨ a = 1 ∨ a = 2 ∨ a = 3) : (Int32.ofInt a ||| Int32.ofInt (Int32.ofInt 1 <<< (Int32.ofInt 0 &&& 31)).toInt).toInt = a / 2 * 2 + 1 := by
  rcases h with rfl | rfl | rfl | rfl <;> decide
theorem bo_1 {a : Int} (h : a = 0 ∨ a = 1 ∨ a = 2 ∨ a = 3) : (Int32.ofInt a ||| Int32.ofInt (Int32.ofInt 1 <<< (Int32.ofInt 1 &&& 31)).toInt).toInt = a % 2 + 2 := by
  rcases h with rfl | rfl | rfl | rfl <;> decide
section
variable {sc : Nat × (Int → Int)} {h : zH} {Q : Option zV → zH → Prop} {z : zS}
theorem s6_keep {i : Int} (hM : rM h z) (hz : okZ z) (hQ : ∀ h', rM h' (keS z i).2 → fr h h' 24 8 → Q (some (.inl (keS z i).1)) h') : zca sc 152 [.inr (.inl (some 24)), .inl i] h Q := by
  obtain ⟨m0, ⟨w, m1, m1'⟩, ⟨pa, m2, m2'⟩, ⟨im, m3, m3', m3''⟩, m4, ⟨f5, m5⟩, ⟨f6, m6⟩, f7, m7⟩ := id hM
  have hfb := fil_b z.I0 z.I1
  have hw0 := m1'.1.1
  unfold keS at hQ
  by_cases hi : 0 ≤ i ∧ i ≤ 1
  · rw [if_pos hi] at hQ
    dsimp only at hQ
    simp (disch := omega) only [e_152, w_152_0, w_152_1, w_152_2, w_152_3, w_152_4, w_152_5, w_152_6, getK, putK, ialK, iasK, aalK, aasK, alnK, zgt_u, zgt_a, Option.toList_some, Option.toList_none, List.cons_append, List.nil_append, List.map_cons, List.map_nil, List.replicate, ite_true, ite_false, if_true, if_false, List.getElem?_cons_zero, List.getElem?_cons_succ, List.set_cons_zero, List.set_cons_succ, true_and, and_true, beq_self_eq_true, zite, Int.toNat_natCast, if_pos, if_neg, zwr_id, zand, s_isImage, zb_eq, zb_ne, hi, and_self, not_true]
    refine lp_ke (w := w) (im := im) hi 437 0 h im (by omega) (by omega) m0 m1 m3 (fun m a b => by omega) (fun _ _ => rfl) (fun h1 im1 l1 a1 a2 a3 a4 => ?_)
    have b24 : zgt h1 24 = _ := (a4.2.2 24 (by omega)).trans m0
    have b25 : zgt h1 25 = _ := (a4.2.2 25 (by omega)).trans m1
    have fin : ∀ F, rM (zuH h1 24 (.inl (6, [.inr (.inl (some 25)), .inr (.inl (some 26)), .inl (z.H.length), .inr (.inl (some 27)), .inl ( F), .inl ( z.p), .inr (.inl (some 28)), .inl ( z.n), .inr (.inl (some 29)), .inr (.inl (some 30)), .inr (.inl (some 31))]))) (if i = 0 then (z.S, z.H, some z.S, z.I1, z.p, z.n, z.T) else (z.S, z.H, z.I0, some z.S, z.p, z.n, z.T)) → Q (some (.inl (z.S.1.length : Int))) (zuH h1 24 (.inl (6, [.inr (.inl (some 25)), .inr (.inl (some 26)), .inl (z.H.length), .inr (.inl (some 27)), .inl ( F), .inl ( z.p), .inr (.inl (some 28)), .inl ( z.n), .inr (.inl (some 29)), .inr (.inl (some 30)), .inr (.inl (some 31))]))) := fun F hF => hQ _ hF (fr_u (fr_wd a4 (by omega) (by omega)) (by omega) (by omega))
    by_cases e : i = 0
    · subst e
      have hor := bo_0 hfb
      simp (disch := omega) only [e_152, w_152_24, w_152_25, w_152_26, w_152_27, w_152_28, w_152_29, w_152_30, w_152_31, w_152_32, w_152_33, w_152_34, w_152_35, w_152_36, getK, putK, ialK, iasK, aalK, aasK, alnK, zgt_u, zgt_a, Option.toList_some, Option.toList_none, List.cons_append, List.nil_append, List.map_cons, List.map_nil, List.replicate, ite_true, ite_false, if_true, if_false, List.getElem?_cons_zero, List.getElem?_cons_succ, List.set_cons_zero, List.set_cons_succ, true_and, and_true, beq_self_eq_true, zite, Int.toNat_natCast, if_pos, if_neg, zwr_id, zand, b24, b25, hw0, hor, Nat.reduceEqDiff]
      refine fin _ ?_
      rw [if_pos rfl]
      refine ⟨?_, ⟨w, ?_, m1'⟩, ⟨pa, ?_, m2'⟩, ⟨im1, ?_, fun D hD => ?_, fun D hD => ?_⟩, ?_, ⟨f5, ?_⟩, ⟨f6, ?_⟩, f7, ?_⟩
      · rw [zgt_u, if_pos rfl]
        have e1 : fil z.I0 z.I1 / 2 * 2 + 1 = fil (some z.S) z.I1 := by
          unfold fil
          rw [if_pos (show (some z.S).isSome = true from rfl)]
          split <;> split <;> omega
        rw [e1]
      · rw [zgt_u, if_neg (by omega)]; exact b25
      · rw [zgt_u, if_neg (by omega), a4.2.2 _ (by omega)]; exact m2
      · rw [zgt_u, if_neg (by omega)]; exact a1
      · cases hD
        exact rW_eq m1' hz.1 (fun k u v => a2 k u v)
      · exact rW_eq (m3'' D hD) (hz.2.2.2.2.1 D hD) (fun k u v => a3 _ (by omega))
      · rw [zgt_u, if_neg (by omega), a4.2.2 _ (by omega)]; exact m4
      · rw [zgt_u, if_neg (by omega), a4.2.2 _ (by omega)]; exact m5
      · rw [zgt_u, if_neg (by omega), a4.2.2 _ (by omega)]; exact m6
      · rw [zgt_u, if_neg (by omega), a4.2.2 _ (by omega)]; exact m7
    · have e : i = 1 := by omega
      subst e
      have hor := bo_1 hfb
      simp (disch := omega) only [e_152, w_152_24, w_152_25, w_152_26, w_152_27, w_152_28, w_152_29, w_152_30, w_152_31, w_152_32, w_152_33, w_152_34, w_152_35, w_152_36, getK, putK, ialK, iasK, aalK, aasK, alnK, zgt_u, zgt_a, Option.toList_some, Option.toList_none, List.cons_append, List.nil_append, List.map_cons, List.map_nil, List.replicate, ite_true, ite_false, if_true, if_false, List.getElem?_cons_zero, List.getElem?_cons_succ, List.set_cons_zero, List.set_cons_succ, true_and, and_true, beq_self_eq_true, zite, Int.toNat_natCast, if_pos, if_neg, zwr_id, zand, b24, b25, hw0, hor, Nat.reduceEqDiff]
      refine fin _ ?_
      rw [if_neg (by omega)]
      refine ⟨?_, ⟨w, ?_, m1'⟩, ⟨pa, ?_, m2'⟩, ⟨im1, ?_, fun D hD => ?_, fun D hD => ?_⟩, ?_, ⟨f5, ?_⟩, ⟨f6, ?_⟩, f7, ?_⟩
      · rw [zgt_u, if_pos rfl]
        have e1 : fil z.I0 z.I1 % 2 + 2 = fil z.I0 (some z.S) := by
          unfold fil
          rw [if_pos (show (some z.S).isSome = true from rfl)]
          split <;> split <;> omega
        rw [e1]
      · rw [zgt_u, if_neg (by omega)]; exact b25
      · rw [zgt_u, if_neg (by omega), a4.2.2 _ (by omega)]; exact m2
      · rw [zgt_u, if_neg (by omega)]; exact a1
      · exact rW_eq (m3' D hD) (hz.2.2.2.1 D hD) (fun k u v => a3 _ (by omega))
      · cases hD
        exact rW_eq m1' hz.1 (fun k u v => a2 k u v)
      · rw [zgt_u, if_neg (by omega), a4.2.2 _ (by omega)]; exact m4
      · rw [zgt_u, if_neg (by omega), a4.2.2 _ (by omega)]; exact m5
      · rw [zgt_u, if_neg (by omega), a4.2.2 _ (by omega)]; exact m6
      · rw [zgt_u, if_neg (by omega), a4.2.2 _ (by omega)]; exact m7
  · rw [if_neg hi] at hQ
    simp (disch := omega) only [e_152, w_152_0, w_152_1, w_152_2, w_152_3, w_152_4, w_152_5, w_152_6, w_152_8, w_152_9, w_152_10, w_152_11, w_152_12, w_152_13, w_152_14, w_152_15, w_152_16, w_152_17, w_152_18, w_152_19, w_152_20, w_152_21, w_152_22, w_152_23, w_152_24, w_152_25, w_152_26, w_152_27, w_152_28, w_152_29, w_152_30, w_152_31, w_152_32, w_152_33, w_152_34, w_152_35, w_152_36, getK, putK, ialK, iasK, aalK, aasK, alnK, zgt_u, zgt_a, Option.toList_some, Option.toList_none, List.cons_append, List.nil_append, List.map_cons, List.map_nil, List.replicate, ite_true, ite_false, if_true, if_false, List.getElem?_cons_zero, List.getElem?_cons_succ, List.set_cons_zero, List.set_cons_succ, true_and, and_true, beq_self_eq_true, zite, Int.toNat_natCast, if_pos, if_neg, zwr_id, zand, s_isImage, zb_eq, zb_ne, hi, not_false_eq_true]
    exact hQ h hM fr_rf
theorem s6_back {i : Int} (hM : rM h z) (hz : okZ z) (hQ : ∀ h', rM h' (baS z i).2 → fr h h' 24 8 → Q (some (.inl (baS z i).1)) h') : zca sc 153 [.inr (.inl (some 24)), .inl i] h Q := by
  have m0 := hM.1
  have hfb := fil_b z.I0 z.I1
  unfold baS at hQ
  by_cases hi : 0 ≤ i ∧ i ≤ 1
  · rw [if_pos hi] at hQ
    have hbit : (Int32.ofInt (Int32.ofInt (fil z.I0 z.I1) >>> (Int32.ofInt i &&& 31)).toInt &&& Int32.ofInt 1).toInt = if (imS z i).isSome = true then 1 else 0 := by
      by_cases e : i = 0
      · subst e
        rw [bt_0 hfb]
        unfold fil imS
        rw [if_pos rfl]
        split <;> split <;> omega
      · have e : i = 1 := by omega
        subst e
        rw [bt_1 hfb]
        unfold fil imS
        rw [if_neg (by omega : ¬ (1 : Int) = 0)]
        split <;> split <;> omega
    cases hm : imS z i with
    | none =>
      rw [hm] at hQ hbit
      rw [if_neg (by simp)] at hbit
      simp (disch := omega) only [e_153, w_153_0, w_153_1, w_153_2, w_153_3, w_153_4, w_153_5, w_153_6, w_153_7, w_153_8, w_153_9, w_153_10, w_153_11, w_153_12, w_153_13, w_153_14, w_153_15, w_153_16, w_153_17, w_153_19, w_153_20, w_153_21, w_153_22, w_153_23, w_153_24, w_153_25, w_153_26, w_153_27, w_153_28, w_153_29, w_153_30, w_153_31, w_153_32, w_153_33, w_153_34, w_153_35, w_153_36, w_153_37, w_153_38, w_153_39, getK, putK, ialK, iasK, aalK, aasK, alnK, zgt_u, zgt_a, Option.toList_some, Option.toList_none, List.cons_append, List.nil_append, List.map_cons, List.map_nil, List.replicate, ite_true, ite_false, if_true, if_false, List.getElem?_cons_zero, List.getElem?_cons_succ, List.set_cons_zero, List.set_cons_succ, true_and, and_true, beq_self_eq_true, zite, Int.toNat_natCast, if_pos, if_neg, zwr_id, zand, s_isImage, zb_eq, zb_ne, hi, and_self, not_true, m0, hbit]
      exact hQ h hM fr_rf
    | some D =>
      rw [hm] at hQ hbit
      rw [if_pos (show (some D).isSome = true from rfl)] at hbit
      simp (disch := omega) only [e_153, w_153_0, w_153_1, w_153_2, w_153_3, w_153_4, w_153_5, w_153_6, w_153_7, w_153_8, w_153_9, w_153_10, w_153_11, w_153_12, w_153_13, w_153_14, w_153_15, w_153_16, w_153_17, w_153_19, w_153_20, w_153_21, w_153_22, w_153_23, w_153_24, w_153_25, w_153_26, w_153_27, w_153_28, w_153_29, w_153_30, w_153_31, w_153_32, w_153_33, w_153_34, w_153_35, w_153_36, w_153_37, w_153_38, w_153_39, getK, putK, ialK, iasK, aalK, aasK, alnK, zgt_u, zgt_a, Option.toList_some, Option.toList_none, List.cons_append, List.nil_append, List.map_cons, List.map_nil, List.replicate, ite_true, ite_false, if_true, if_false, List.getElem?_cons_zero, List.getElem?_cons_succ, List.set_cons_zero, List.set_cons_succ, true_and, and_true, beq_self_eq_true, zite, Int.toNat_natCast, if_pos, if_neg, zwr_id, zand, s_isImage, zb_eq, zb_ne, hi, and_self, not_true, m0, hbit, zrc m0]
      refine s6_remember hM hz (fun h1 a1 a2 => ?_)
      obtain ⟨n0, ⟨w, n1, n1'⟩, -, ⟨im, n3, n3', n3''⟩, -⟩ := id a1
      have hokD : okDt D := by
        unfold imS at hm
        split at hm
        · exact hz.2.2.2.1 D hm
        · exact hz.2.2.2.2.1 D hm
      have hD : rW (fun k => im (437 * i + k)) D := by
        unfold imS at hm
        by_cases e : i = 0
        · rw [if_pos e] at hm
          subst e
          exact n3' D hm
        · rw [if_neg e] at hm
          have e : i = 1 := by omega
          subst e
          exact n3'' D hm
      simp (disch := omega) only [e_153, w_153_15, w_153_16, w_153_17, getK, putK, ialK, iasK, aalK, aasK, alnK, zgt_u, zgt_a, Option.toList_some, Option.toList_none, List.cons_append, List.nil_append, List.map_cons, List.map_nil, List.replicate, ite_true, ite_false, if_true, if_false, List.getElem?_cons_zero, List.getElem?_cons_succ, List.set_cons_zero, List.set_cons_succ, true_and, and_true, beq_self_eq_true, zite, Int.toNat_natCast, if_pos, if_neg, zwr_id, zand]
      refine lp_ba (im := im) hi 437 0 h1 w (by omega) (by omega) n0 n1 n3 (fun m a b => by omega) (fun h2 w2 l1 b1 b2 b3 => ?_)
      have c24 : zgt h2 24 = _ := (b3.2.2 24 (by omega)).trans n0
      have hW : rW w2 D := rW_eq hD hokD (fun k u v => b2 k u v)
      have hw0 := hW.1.1
      simp (disch := omega) only [e_153, w_153_35, w_153_36, w_153_37, w_153_38, w_153_39, getK, putK, ialK, iasK, aalK, aasK, alnK, zgt_u, zgt_a, Option.toList_some, Option.toList_none, List.cons_append, List.nil_append, List.map_cons, List.map_nil, List.replicate, ite_true, ite_false, if_true, if_false, List.getElem?_cons_zero, List.getElem?_cons_succ, List.set_cons_zero, List.set_cons_succ, true_and, and_true, beq_self_eq_true, zite, Int.toNat_natCast, if_pos, if_neg, zwr_id, zand, c24, b1, hw0]
      exact hQ h2 (rM_w a1 b3 b1 hW) (fr_tr a2 (fr_wd b3 (by omega) (by omega)))
  · rw [if_neg hi] at hQ
    simp (disch := omega) only [e_153, w_153_0, w_153_1, w_153_2, w_153_3, w_153_4, w_153_5, w_153_6, w_153_7, w_153_8, w_153_9, w_153_10, w_153_11, w_153_12, w_153_13, w_153_14, w_153_15, w_153_16, w_153_17, w_153_19, w_153_20, w_153_21, w_153_22, w_153_23, w_153_24, w_153_25, w_153_26, w_153_27, w_153_28, w_153_29, w_153_30, w_153_31, w_153_32, w_153_33, w_153_34, w_153_35, w_153_36, w_153_37, w_153_38, w_153_39, getK, putK, ialK, iasK, aalK, aasK, alnK, zgt_u, zgt_a, Option.toList_some, Option.toList_none, List.cons_append, List.nil_append, List.map_cons, List.map_nil, List.replicate, ite_true, ite_false, if_true, if_false, List.getElem?_cons_zero, List.getElem?_cons_succ, List.set_cons_zero, List.set_cons_succ, true_and, and_true, beq_self_eq_true, zite, Int.toNat_natCast, if_pos, if_neg, zwr_id, zand, s_isImage, zb_eq, zb_ne, hi, not_false_eq_true]
    exact hQ h hM fr_rf
end
