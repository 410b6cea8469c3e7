/-! THE MODEL'S LISTS READ -/
theorem gI_app {A B : List zI} {x : zI} : gI (A ++ x :: B) (A.length : Int) = x := by
  unfold gI
  rw [if_pos (by omega)]
  simp
theorem ixf_c {c k : Int} {x : zI} {L : List zI} : ixf c k (x :: L) = if x.2.1 ≤ c then (if x.2.1 = c then k else ixf c (k + 1) L) else -1 := rfl
theorem ixf_nex {L : List zI} (hs : srtL L) (c : Int) : (∀ y ∈ L, y.2.1 ≠ c) → ixf c 0 L = -1 := ixf_none
section
variable {sc : Nat × (Int → Int)} {h : zH} {Q : Option zV → zH → Prop} {pm fl p n : Int} {w : Int → Int}
theorem s6_family {f : Int} (hf : 0 ≤ f ∧ f ≤ 1) : zca sc 103 [.inl f] h Q = Q (some (.inl (49 + 193 * f))) h := by
  simp (disch := omega) only [e_103, w_103_0, w_103_1, w_103_2, w_103_3, w_103_4, w_103_5, getK, putK, ialK, iasK, aalK, aasK, alnK, zgt_u, zgt_a, Option.toList_some, Option.toList_none, List.cons_append, List.nil_append, List.map_cons, List.map_nil, List.replicate, ite_true, ite_false, if_true, if_false, List.getElem?_cons_zero, List.getElem?_cons_succ, List.set_cons_zero, List.set_cons_succ, true_and, and_true, beq_self_eq_true, zite, Int.toNat_natCast, if_pos, if_neg, zwr_id, zand]
theorem s6_items {f : Int} (hO : zgt h 24 = .inl (6, [.inr (.inl (some 25)), .inr (.inl (some 26)), .inl (pm), .inr (.inl (some 27)), .inl ( fl), .inl ( p), .inr (.inl (some 28)), .inl ( n), .inr (.inl (some 29)), .inr (.inl (some 30)), .inr (.inl (some 31))])) (hW : zgt h 25 = .inr (.inl (437, w))) (hf : 0 ≤ f ∧ f ≤ 1) : zca sc 104 [.inr (.inl (some 24)), .inl f] h Q = Q (some (.inl (w (49 + 193 * f)))) h := by
  simp (disch := omega) only [e_104, w_104_0, w_104_1, w_104_2, w_104_3, w_104_4, w_104_5, getK, putK, ialK, iasK, aalK, aasK, alnK, zgt_u, zgt_a, Option.toList_some, Option.toList_none, List.cons_append, List.nil_append, List.map_cons, List.map_nil, List.replicate, ite_true, ite_false, if_true, if_false, List.getElem?_cons_zero, List.getElem?_cons_succ, List.set_cons_zero, List.set_cons_succ, true_and, and_true, beq_self_eq_true, zite, Int.toNat_natCast, if_pos, if_neg, zwr_id, zand, hO, hW, s6_family hf]
theorem s6_codeAt {f k : Int} (hO : zgt h 24 = .inl (6, [.inr (.inl (some 25)), .inr (.inl (some 26)), .inl (pm), .inr (.inl (some 27)), .inl ( fl), .inl ( p), .inr (.inl (some 28)), .inl ( n), .inr (.inl (some 29)), .inr (.inl (some 30)), .inr (.inl (some 31))])) (hW : zgt h 25 = .inr (.inl (437, w))) (hf : 0 ≤ f ∧ f ≤ 1) (hk : 0 ≤ k ∧ k < 64) : zca sc 105 [.inr (.inl (some 24)), .inl f, .inl k] h Q = Q (some (.inl (w (49 + 193 * f + 1 + k)))) h := by
  simp (disch := omega) only [e_105, w_105_0, w_105_1, w_105_2, w_105_3, w_105_4, w_105_5, w_105_6, w_105_7, w_105_8, w_105_9, getK, putK, ialK, iasK, aalK, aasK, alnK, zgt_u, zgt_a, Option.toList_some, Option.toList_none, List.cons_append, List.nil_append, List.map_cons, List.map_nil, List.replicate, ite_true, ite_false, if_true, if_false, List.getElem?_cons_zero, List.getElem?_cons_succ, List.set_cons_zero, List.set_cons_succ, true_and, and_true, beq_self_eq_true, zite, Int.toNat_natCast, if_pos, if_neg, zwr_id, zand, hO, hW, s6_family hf]
theorem s6_weightAt {f k : Int} (hO : zgt h 24 = .inl (6, [.inr (.inl (some 25)), .inr (.inl (some 26)), .inl (pm), .inr (.inl (some 27)), .inl ( fl), .inl ( p), .inr (.inl (some 28)), .inl ( n), .inr (.inl (some 29)), .inr (.inl (some 30)), .inr (.inl (some 31))])) (hW : zgt h 25 = .inr (.inl (437, w))) (hf : 0 ≤ f ∧ f ≤ 1) (hk : 0 ≤ k ∧ k < 64) : zca sc 106 [.inr (.inl (some 24)), .inl f, .inl k] h Q = Q (some (.inl (w (49 + 193 * f + 1 + 64 + k)))) h := by
  simp (disch := omega) only [e_106, w_106_0, w_106_1, w_106_2, w_106_3, w_106_4, w_106_5, w_106_6, w_106_7, w_106_8, w_106_9, w_106_10, w_106_11, getK, putK, ialK, iasK, aalK, aasK, alnK, zgt_u, zgt_a, Option.toList_some, Option.toList_none, List.cons_append, List.nil_append, List.map_cons, List.map_nil, List.replicate, ite_true, ite_false, if_true, if_false, List.getElem?_cons_zero, List.getElem?_cons_succ, List.set_cons_zero, List.set_cons_succ, true_and, and_true, beq_self_eq_true, zite, Int.toNat_natCast, if_pos, if_neg, zwr_id, zand, hO, hW, s6_family hf]
theorem s6_groupAt {f k : Int} (hO : zgt h 24 = .inl (6, [.inr (.inl (some 25)), .inr (.inl (some 26)), .inl (pm), .inr (.inl (some 27)), .inl ( fl), .inl ( p), .inr (.inl (some 28)), .inl ( n), .inr (.inl (some 29)), .inr (.inl (some 30)), .inr (.inl (some 31))])) (hW : zgt h 25 = .inr (.inl (437, w))) (hf : 0 ≤ f ∧ f ≤ 1) (hk : 0 ≤ k ∧ k < 64) : zca sc 107 [.inr (.inl (some 24)), .inl f, .inl k] h Q = Q (some (.inl (w (49 + 193 * f + 1 + 128 + k)))) h := by
  simp (disch := omega) only [e_107, w_107_0, w_107_1, w_107_2, w_107_3, w_107_4, w_107_5, w_107_6, w_107_7, w_107_8, w_107_9, w_107_10, w_107_11, getK, putK, ialK, iasK, aalK, aasK, alnK, zgt_u, zgt_a, Option.toList_some, Option.toList_none, List.cons_append, List.nil_append, List.map_cons, List.map_nil, List.replicate, ite_true, ite_false, if_true, if_false, List.getElem?_cons_zero, List.getElem?_cons_succ, List.set_cons_zero, List.set_cons_succ, true_and, and_true, beq_self_eq_true, zite, Int.toNat_natCast, if_pos, if_neg, zwr_id, zand, hO, hW, s6_family hf]
theorem lp_liveAt {c : Int} (hO : zgt h 24 = .inl (6, [.inr (.inl (some 25)), .inr (.inl (some 26)), .inl (pm), .inr (.inl (some 27)), .inl ( fl), .inl ( p), .inr (.inl (some 28)), .inl ( n), .inr (.inl (some 29)), .inr (.inl (some 30)), .inr (.inl (some 31))])) (hW : zgt h 25 = .inr (.inl (437, w))) {L : List zI} (hL : rL w L) (hl : L.length ≤ 24) : ∀ (B A : List zI), L = A ++ B → B.Pairwise (fun a b => a.2.1 < b.2.1) → zwp sc 102 2 [some (.inr (.inl (some 24))), some (.inl c), some (.inl (A.length : Int))] [] h Q = Q (some (.inl (if ixf c A.length B < 0 then -9999 else ixf c A.length B))) h := by
  intro B
  induction B with
  | nil =>
    intro A e hs
    rw [List.append_nil] at e
    subst e
    have hw := hL.1
    rw [w_102_2]
    simp (disch := omega) only [e_102, w_102_0, w_102_1, w_102_3, w_102_4, w_102_5, w_102_6, w_102_7, w_102_8, w_102_9, w_102_10, w_102_11, w_102_12, w_102_13, w_102_14, w_102_15, w_102_16, w_102_17, w_102_18, w_102_19, w_102_20, w_102_21, getK, putK, ialK, iasK, aalK, aasK, alnK, zgt_u, zgt_a, Option.toList_some, Option.toList_none, List.cons_append, List.nil_append, List.map_cons, List.map_nil, List.replicate, ite_true, ite_false, if_true, if_false, List.getElem?_cons_zero, List.getElem?_cons_succ, List.set_cons_zero, List.set_cons_succ, true_and, and_true, beq_self_eq_true, zite, Int.toNat_natCast, if_pos, if_neg, zwr_id, zand, hO, hW, hw]
    rfl
  | cons x B ih =>
    intro A e hs
    have hw := hL.1
    have hlen : L.length = A.length + (B.length + 1) := by rw [e]; simp
    have hx := (hL.2 A.length (by omega) (by omega)).1
    rw [e, gI_app] at hx
    have ih := ih (A ++ [x]) (by rw [e]; simp) (List.pairwise_cons.mp hs).2
    rw [List.length_append, List.length_singleton, show ((A.length + 1 : Nat) : Int) = (A.length : Int) + 1 by omega] at ih
    rw [w_102_2]
    by_cases c1 : x.2.1 = c
    · have e2 : ixf c A.length (x :: B) = A.length := by
        unfold ixf
        rw [if_pos (by omega), if_pos c1]
      rw [e2, if_neg (by omega)]
      simp (disch := omega) only [e_102, w_102_0, w_102_1, w_102_3, w_102_4, w_102_5, w_102_6, w_102_7, w_102_8, w_102_9, w_102_10, w_102_11, w_102_12, w_102_13, w_102_14, w_102_15, w_102_16, w_102_17, w_102_18, w_102_19, w_102_20, w_102_21, getK, putK, ialK, iasK, aalK, aasK, alnK, zgt_u, zgt_a, Option.toList_some, Option.toList_none, List.cons_append, List.nil_append, List.map_cons, List.map_nil, List.replicate, ite_true, ite_false, if_true, if_false, List.getElem?_cons_zero, List.getElem?_cons_succ, List.set_cons_zero, List.set_cons_succ, true_and, and_true, beq_self_eq_true, zite, Int.toNat_natCast, if_pos, if_neg, zwr_id, zand, hO, hW, hw, hx]
    · have e2 : ixf c A.length (x :: B) = ixf c (A.length + 1) B := by
        rw [ixf_c]
        by_cases c2 : x.2.1 ≤ c
        · rw [if_pos c2, if_neg c1]
        · have e1 : ixf c ((A.length : Int) + 1) B = -1 := ixf_none (fun y hy => by have := (List.pairwise_cons.mp hs).1 y hy; omega)
          rw [if_neg c2, e1]
      rw [e2]
      simp (disch := omega) only [e_102, w_102_0, w_102_1, w_102_3, w_102_4, w_102_5, w_102_6, w_102_7, w_102_8, w_102_9, w_102_10, w_102_11, w_102_12, w_102_13, w_102_14, w_102_15, w_102_16, w_102_17, w_102_18, w_102_19, w_102_20, w_102_21, getK, putK, ialK, iasK, aalK, aasK, alnK, zgt_u, zgt_a, Option.toList_some, Option.toList_none, List.cons_append, List.nil_append, List.map_cons, List.map_nil, List.replicate, ite_true, ite_false, if_true, if_false, List.getElem?_cons_zero, List.getElem?_cons_succ, List.set_cons_zero, List.set_cons_succ, true_and, and_true, beq_self_eq_true, zite, Int.toNat_natCast, if_pos, if_neg, zwr_id, zand, hO, hW, hw, hx, ih]
theorem s6_liveAt {c : Int} (hO : zgt h 24 = .inl (6, [.inr (.inl (some 25)), .inr (.inl (some 26)), .inl (pm), .inr (.inl (some 27)), .inl ( fl), .inl ( p), .inr (.inl (some 28)), .inl ( n), .inr (.inl (some 29)), .inr (.inl (some 30)), .inr (.inl (some 31))])) (hW : zgt h 25 = .inr (.inl (437, w))) {L : List zI} (hL : rL w L) (hl : L.length ≤ 24) (hs : srtL L) : zca sc 102 [.inr (.inl (some 24)), .inl c] h Q = Q (some (.inl (if ixf c 0 L < 0 then -9999 else ixf c 0 L))) h := by
  simp (disch := omega) only [e_102, w_102_0, w_102_1, w_102_3, w_102_4, w_102_5, w_102_6, w_102_7, w_102_8, w_102_9, w_102_10, w_102_11, w_102_12, w_102_13, w_102_14, w_102_15, w_102_16, w_102_17, w_102_18, w_102_19, w_102_20, w_102_21, getK, putK, ialK, iasK, aalK, aasK, alnK, zgt_u, zgt_a, Option.toList_some, Option.toList_none, List.cons_append, List.nil_append, List.map_cons, List.map_nil, List.replicate, ite_true, ite_false, if_true, if_false, List.getElem?_cons_zero, List.getElem?_cons_succ, List.set_cons_zero, List.set_cons_succ, true_and, and_true, beq_self_eq_true, zite, Int.toNat_natCast, if_pos, if_neg, zwr_id, zand]
  exact lp_liveAt hO hW hL hl L [] rfl hs.2
theorem s6_isLive (hO : zgt h 24 = .inl (6, [.inr (.inl (some 25)), .inr (.inl (some 26)), .inl (pm), .inr (.inl (some 27)), .inl ( fl), .inl ( p), .inr (.inl (some 28)), .inl ( n), .inr (.inl (some 29)), .inr (.inl (some 30)), .inr (.inl (some 31))])) (hW : zgt h 25 = .inr (.inl (437, w))) {L : List zI} (hL : rL w L) (hl : L.length ≤ 24) (hs : srtL L) (ho : okIs L) : zca sc 116 [.inr (.inl (some 24))] h Q = Q (some (.inl (zb (0 ≤ ixf p 0 L)))) h := by
  by_cases h1 : 0 ≤ ixf p 0 L
  · have hp : 0 < p := by
      rcases ix_some hs p with q | ⟨j, x, -, -, -, x4, x5, -⟩
      · omega
      · rw [← x4]; exact wd_pos (ho x x5).2.2.1
    rw [zb_t h1]
    simp (disch := omega) only [e_116, w_116_0, w_116_1, w_116_2, w_116_3, w_116_4, w_116_5, w_116_6, w_116_7, w_116_8, w_116_9, w_116_10, w_116_11, w_116_12, getK, putK, ialK, iasK, aalK, aasK, alnK, zgt_u, zgt_a, Option.toList_some, Option.toList_none, List.cons_append, List.nil_append, List.map_cons, List.map_nil, List.replicate, ite_true, ite_false, if_true, if_false, List.getElem?_cons_zero, List.getElem?_cons_succ, List.set_cons_zero, List.set_cons_succ, true_and, and_true, beq_self_eq_true, zite, Int.toNat_natCast, if_pos, if_neg, zwr_id, zand, hO, s6_liveAt hO hW hL hl hs, zrc hO, true_or, or_true]
  · rw [zb_f h1]
    by_cases hp : 0 < p
    · simp (disch := omega) only [e_116, w_116_0, w_116_1, w_116_2, w_116_3, w_116_4, w_116_5, w_116_6, w_116_7, w_116_8, w_116_9, w_116_10, w_116_11, w_116_12, getK, putK, ialK, iasK, aalK, aasK, alnK, zgt_u, zgt_a, Option.toList_some, Option.toList_none, List.cons_append, List.nil_append, List.map_cons, List.map_nil, List.replicate, ite_true, ite_false, if_true, if_false, List.getElem?_cons_zero, List.getElem?_cons_succ, List.set_cons_zero, List.set_cons_succ, true_and, and_true, beq_self_eq_true, zite, Int.toNat_natCast, if_pos, if_neg, zwr_id, zand, hO, s6_liveAt hO hW hL hl hs, zrc hO, true_or, or_true]
    · simp (disch := omega) only [e_116, w_116_0, w_116_1, w_116_2, w_116_3, w_116_4, w_116_5, w_116_6, w_116_7, w_116_8, w_116_9, w_116_10, w_116_11, w_116_12, getK, putK, ialK, iasK, aalK, aasK, alnK, zgt_u, zgt_a, Option.toList_some, Option.toList_none, List.cons_append, List.nil_append, List.map_cons, List.map_nil, List.replicate, ite_true, ite_false, if_true, if_false, List.getElem?_cons_zero, List.getElem?_cons_succ, List.set_cons_zero, List.set_cons_succ, true_and, and_true, beq_self_eq_true, zite, Int.toNat_natCast, if_pos, if_neg, zwr_id, zand, hO, s6_liveAt hO hW hL hl hs, zrc hO, true_or, or_true]
theorem lp_itemsIn {f g : Int} (hO : zgt h 24 = .inl (6, [.inr (.inl (some 25)), .inr (.inl (some 26)), .inl (pm), .inr (.inl (some 27)), .inl ( fl), .inl ( p), .inr (.inl (some 28)), .inl ( n), .inr (.inl (some 29)), .inr (.inl (some 30)), .inr (.inl (some 31))])) (hW : zgt h 25 = .inr (.inl (437, w))) (hf : 0 ≤ f ∧ f ≤ 1) {M : List zI} (hF : rF w (49 + 193 * f) M) (hl : M.length ≤ 64) : ∀ (B A : List zI) (a : Int), M = A ++ B → 0 ≤ a → a ≤ A.length → zwp sc 108 4 [some (.inr (.inl (some 24))), some (.inl f), some (.inl g), some (.inl a), some (.inl (A.length : Int))] [] h Q = Q (some (.inl (a + cti g B))) h := by
  intro B
  induction B with
  | nil =>
    intro A a e ha ha2
    rw [List.append_nil] at e
    subst e
    have hw := hF.1
    rw [w_108_4]
    simp (disch := omega) only [e_108, w_108_0, w_108_1, w_108_2, w_108_3, w_108_5, w_108_6, w_108_7, w_108_8, w_108_9, w_108_10, w_108_11, w_108_12, w_108_13, w_108_14, w_108_15, w_108_16, w_108_17, w_108_18, w_108_19, w_108_20, w_108_21, w_108_22, w_108_23, w_108_24, getK, putK, ialK, iasK, aalK, aasK, alnK, zgt_u, zgt_a, Option.toList_some, Option.toList_none, List.cons_append, List.nil_append, List.map_cons, List.map_nil, List.replicate, ite_true, ite_false, if_true, if_false, List.getElem?_cons_zero, List.getElem?_cons_succ, List.set_cons_zero, List.set_cons_succ, true_and, and_true, beq_self_eq_true, zite, Int.toNat_natCast, if_pos, if_neg, zwr_id, zand, zrc hO, s6_items hO hW hf, hw]
    unfold cti
    rw [Int.add_zero]
  | cons x B ih =>
    intro A a e ha ha2
    have hw := hF.1
    have hlen : M.length = A.length + (B.length + 1) := by rw [e]; simp
    obtain ⟨-, -, hx⟩ := hF.2 A.length (by omega) (by omega)
    rw [e, gI_app] at hx
    have ih := fun a => ih (A ++ [x]) a (by rw [e]; simp)
    rw [List.length_append, List.length_singleton, show ((A.length + 1 : Nat) : Int) = (A.length : Int) + 1 by omega] at ih
    rw [w_108_4]
    unfold cti
    by_cases c1 : x.1 = g
    · simp (disch := omega) only [e_108, w_108_0, w_108_1, w_108_2, w_108_3, w_108_5, w_108_6, w_108_7, w_108_8, w_108_9, w_108_10, w_108_11, w_108_12, w_108_13, w_108_14, w_108_15, w_108_16, w_108_17, w_108_18, w_108_19, w_108_20, w_108_21, w_108_22, w_108_23, w_108_24, getK, putK, ialK, iasK, aalK, aasK, alnK, zgt_u, zgt_a, Option.toList_some, Option.toList_none, List.cons_append, List.nil_append, List.map_cons, List.map_nil, List.replicate, ite_true, ite_false, if_true, if_false, List.getElem?_cons_zero, List.getElem?_cons_succ, List.set_cons_zero, List.set_cons_succ, true_and, and_true, beq_self_eq_true, zite, Int.toNat_natCast, if_pos, if_neg, zwr_id, zand, zrc hO, s6_items hO hW hf, s6_groupAt hO hW hf, hw, hx]
      rw [ih (a + 1) (by omega) (by omega), Int.add_assoc]
    · simp (disch := omega) only [e_108, w_108_0, w_108_1, w_108_2, w_108_3, w_108_5, w_108_6, w_108_7, w_108_8, w_108_9, w_108_10, w_108_11, w_108_12, w_108_13, w_108_14, w_108_15, w_108_16, w_108_17, w_108_18, w_108_19, w_108_20, w_108_21, w_108_22, w_108_23, w_108_24, getK, putK, ialK, iasK, aalK, aasK, alnK, zgt_u, zgt_a, Option.toList_some, Option.toList_none, List.cons_append, List.nil_append, List.map_cons, List.map_nil, List.replicate, ite_true, ite_false, if_true, if_false, List.getElem?_cons_zero, List.getElem?_cons_succ, List.set_cons_zero, List.set_cons_succ, true_and, and_true, beq_self_eq_true, zite, Int.toNat_natCast, if_pos, if_neg, zwr_id, zand, zrc hO, s6_items hO hW hf, s6_groupAt hO hW hf, hw, hx, Int.add_zero, Int.zero_add]
      rw [ih a (by omega) (by omega)]
theorem s6_itemsIn {f g : Int} (hO : zgt h 24 = .inl (6, [.inr (.inl (some 25)), .inr (.inl (some 26)), .inl (pm), .inr (.inl (some 27)), .inl ( fl), .inl ( p), .inr (.inl (some 28)), .inl ( n), .inr (.inl (some 29)), .inr (.inl (some 30)), .inr (.inl (some 31))])) (hW : zgt h 25 = .inr (.inl (437, w))) (hf : 0 ≤ f ∧ f ≤ 1) {M : List zI} (hF : rF w (49 + 193 * f) M) (hl : M.length ≤ 64) : zca sc 108 [.inr (.inl (some 24)), .inl f, .inl g] h Q = Q (some (.inl (cti g M))) h := by
  simp (disch := omega) only [e_108, w_108_0, w_108_1, w_108_2, w_108_3, w_108_5, w_108_6, w_108_7, w_108_8, w_108_9, w_108_10, w_108_11, w_108_12, w_108_13, w_108_14, w_108_15, w_108_16, w_108_17, w_108_18, w_108_19, w_108_20, w_108_21, w_108_22, w_108_23, w_108_24, getK, putK, ialK, iasK, aalK, aasK, alnK, zgt_u, zgt_a, Option.toList_some, Option.toList_none, List.cons_append, List.nil_append, List.map_cons, List.map_nil, List.replicate, ite_true, ite_false, if_true, if_false, List.getElem?_cons_zero, List.getElem?_cons_succ, List.set_cons_zero, List.set_cons_succ, true_and, and_true, beq_self_eq_true, zite, Int.toNat_natCast, if_pos, if_neg, zwr_id, zand]
  have := lp_itemsIn (sc := sc) (Q := Q) (g := g) hO hW hf hF hl M [] 0 rfl (Int.le_refl _) (by simp)
  rw [Int.zero_add] at this
  exact this
theorem lp_lettersIn6 {f g : Int} (hO : zgt h 24 = .inl (6, [.inr (.inl (some 25)), .inr (.inl (some 26)), .inl (pm), .inr (.inl (some 27)), .inl ( fl), .inl ( p), .inr (.inl (some 28)), .inl ( n), .inr (.inl (some 29)), .inr (.inl (some 30)), .inr (.inl (some 31))])) (hW : zgt h 25 = .inr (.inl (437, w))) (hf : 0 ≤ f ∧ f ≤ 1) {M : List zI} (hF : rF w (49 + 193 * f) M) (hl : M.length ≤ 64) (ho : okIs M) : ∀ (B A : List zI) (a : Int), M = A ++ B → 0 ≤ a → a ≤ 6 * A.length → zwp sc 109 4 [some (.inr (.inl (some 24))), some (.inl f), some (.inl g), some (.inl a), some (.inl (A.length : Int))] [] h Q = Q (some (.inl (a + lti g B))) h := by
  intro B
  induction B with
  | nil =>
    intro A a e ha ha2
    rw [List.append_nil] at e
    subst e
    have hw := hF.1
    rw [w_109_4]
    simp (disch := omega) only [e_109, w_109_0, w_109_1, w_109_2, w_109_3, w_109_5, w_109_6, w_109_7, w_109_8, w_109_9, w_109_10, w_109_11, w_109_12, w_109_13, w_109_14, w_109_15, w_109_16, w_109_17, w_109_18, w_109_19, w_109_20, w_109_21, w_109_22, w_109_23, w_109_24, w_109_25, w_109_26, w_109_27, w_109_28, getK, putK, ialK, iasK, aalK, aasK, alnK, zgt_u, zgt_a, Option.toList_some, Option.toList_none, List.cons_append, List.nil_append, List.map_cons, List.map_nil, List.replicate, ite_true, ite_false, if_true, if_false, List.getElem?_cons_zero, List.getElem?_cons_succ, List.set_cons_zero, List.set_cons_succ, true_and, and_true, beq_self_eq_true, zite, Int.toNat_natCast, if_pos, if_neg, zwr_id, zand, zrc hO, s6_items hO hW hf, hw]
    unfold lti
    rw [Int.add_zero]
  | cons x B ih =>
    intro A a e ha ha2
    have hw := hF.1
    have hlen : M.length = A.length + (B.length + 1) := by rw [e]; simp
    have hxo := ho x (by rw [e]; simp)
    have h6 := wd_nd hxo.2.2.1
    have h7 := hxo.2.2.1.2.1
    obtain ⟨hxc, -, hx⟩ := hF.2 A.length (by omega) (by omega)
    rw [e, gI_app] at hx hxc
    have ih := fun a => ih (A ++ [x]) a (by rw [e]; simp)
    rw [List.length_append, List.length_singleton, show ((A.length + 1 : Nat) : Int) = (A.length : Int) + 1 by omega] at ih
    rw [w_109_4]
    unfold lti
    by_cases c1 : x.1 = g
    · simp (disch := omega) only [e_109, w_109_0, w_109_1, w_109_2, w_109_3, w_109_5, w_109_6, w_109_7, w_109_8, w_109_9, w_109_10, w_109_11, w_109_12, w_109_13, w_109_14, w_109_15, w_109_16, w_109_17, w_109_18, w_109_19, w_109_20, w_109_21, w_109_22, w_109_23, w_109_24, w_109_25, w_109_26, w_109_27, w_109_28, getK, putK, ialK, iasK, aalK, aasK, alnK, zgt_u, zgt_a, Option.toList_some, Option.toList_none, List.cons_append, List.nil_append, List.map_cons, List.map_nil, List.replicate, ite_true, ite_false, if_true, if_false, List.getElem?_cons_zero, List.getElem?_cons_succ, List.set_cons_zero, List.set_cons_succ, true_and, and_true, beq_self_eq_true, zite, Int.toNat_natCast, if_pos, if_neg, zwr_id, zand, zrc hO, s6_items hO hW hf, s6_groupAt hO hW hf, s6_codeAt hO hW hf, hw, hx, hxc, s_lettersOf6]
      rw [ih (a + nd x.2.1) (by omega) (by omega), Int.add_assoc]
    · simp (disch := omega) only [e_109, w_109_0, w_109_1, w_109_2, w_109_3, w_109_5, w_109_6, w_109_7, w_109_8, w_109_9, w_109_10, w_109_11, w_109_12, w_109_13, w_109_14, w_109_15, w_109_16, w_109_17, w_109_18, w_109_19, w_109_20, w_109_21, w_109_22, w_109_23, w_109_24, w_109_25, w_109_26, w_109_27, w_109_28, getK, putK, ialK, iasK, aalK, aasK, alnK, zgt_u, zgt_a, Option.toList_some, Option.toList_none, List.cons_append, List.nil_append, List.map_cons, List.map_nil, List.replicate, ite_true, ite_false, if_true, if_false, List.getElem?_cons_zero, List.getElem?_cons_succ, List.set_cons_zero, List.set_cons_succ, true_and, and_true, beq_self_eq_true, zite, Int.toNat_natCast, if_pos, if_neg, zwr_id, zand, zrc hO, s6_items hO hW hf, s6_groupAt hO hW hf, hw, hx, Int.add_zero, Int.zero_add]
      rw [ih a (by omega) (by omega)]
theorem s6_lettersIn {f g : Int} (hO : zgt h 24 = .inl (6, [.inr (.inl (some 25)), .inr (.inl (some 26)), .inl (pm), .inr (.inl (some 27)), .inl ( fl), .inl ( p), .inr (.inl (some 28)), .inl ( n), .inr (.inl (some 29)), .inr (.inl (some 30)), .inr (.inl (some 31))])) (hW : zgt h 25 = .inr (.inl (437, w))) (hf : 0 ≤ f ∧ f ≤ 1) {M : List zI} (hF : rF w (49 + 193 * f) M) (hl : M.length ≤ 64) (ho : okIs M) : zca sc 109 [.inr (.inl (some 24)), .inl f, .inl g] h Q = Q (some (.inl (lti g M))) h := by
  simp (disch := omega) only [e_109, w_109_0, w_109_1, w_109_2, w_109_3, w_109_5, w_109_6, w_109_7, w_109_8, w_109_9, w_109_10, w_109_11, w_109_12, w_109_13, w_109_14, w_109_15, w_109_16, w_109_17, w_109_18, w_109_19, w_109_20, w_109_21, w_109_22, w_109_23, w_109_24, w_109_25, w_109_26, w_109_27, w_109_28, getK, putK, ialK, iasK, aalK, aasK, alnK, zgt_u, zgt_a, Option.toList_some, Option.toList_none, List.cons_append, List.nil_append, List.map_cons, List.map_nil, List.replicate, ite_true, ite_false, if_true, if_false, List.getElem?_cons_zero, List.getElem?_cons_succ, List.set_cons_zero, List.set_cons_succ, true_and, and_true, beq_self_eq_true, zite, Int.toNat_natCast, if_pos, if_neg, zwr_id, zand]
  have := lp_lettersIn6 (sc := sc) (Q := Q) (g := g) hO hW hf hF hl ho M [] 0 rfl (Int.le_refl _) (by simp)
  rw [Int.zero_add] at this
  exact this
theorem lp_weightsIn6 {f g : Int} (hO : zgt h 24 = .inl (6, [.inr (.inl (some 25)), .inr (.inl (some 26)), .inl (pm), .inr (.inl (some 27)), .inl ( fl), .inl ( p), .inr (.inl (some 28)), .inl ( n), .inr (.inl (some 29)), .inr (.inl (some 30)), .inr (.inl (some 31))])) (hW : zgt h 25 = .inr (.inl (437, w))) (hf : 0 ≤ f ∧ f ≤ 1) {M : List zI} (hF : rF w (49 + 193 * f) M) (hl : M.length ≤ 64) (ho : okIs M) : ∀ (B A : List zI) (a : Int), M = A ++ B → -99 * (A.length : Int) ≤ a → a ≤ 99 * A.length → zwp sc 132 4 [some (.inr (.inl (some 24))), some (.inl f), some (.inl g), some (.inl a), some (.inl (A.length : Int))] [] h Q = Q (some (.inl (a + wti g B))) h := by
  intro B
  induction B with
  | nil =>
    intro A a e ha ha2
    rw [List.append_nil] at e
    subst e
    have hw := hF.1
    rw [w_132_4]
    simp (disch := omega) only [e_132, w_132_0, w_132_1, w_132_2, w_132_3, w_132_5, w_132_6, w_132_7, w_132_8, w_132_9, w_132_10, w_132_11, w_132_12, w_132_13, w_132_14, w_132_15, w_132_16, w_132_17, w_132_18, w_132_19, w_132_20, w_132_21, w_132_22, w_132_23, w_132_24, w_132_25, w_132_26, w_132_27, getK, putK, ialK, iasK, aalK, aasK, alnK, zgt_u, zgt_a, Option.toList_some, Option.toList_none, List.cons_append, List.nil_append, List.map_cons, List.map_nil, List.replicate, ite_true, ite_false, if_true, if_false, List.getElem?_cons_zero, List.getElem?_cons_succ, List.set_cons_zero, List.set_cons_succ, true_and, and_true, beq_self_eq_true, zite, Int.toNat_natCast, if_pos, if_neg, zwr_id, zand, zrc hO, s6_items hO hW hf, hw]
    unfold wti
    rw [Int.add_zero]
  | cons x B ih =>
    intro A a e ha ha2
    have hw := hF.1
    have hlen : M.length = A.length + (B.length + 1) := by rw [e]; simp
    have hxo := (ho x (by rw [e]; simp)).2.2.2
    obtain ⟨-, hxw, hx⟩ := hF.2 A.length (by omega) (by omega)
    rw [e, gI_app] at hx hxw
    have ih := fun a => ih (A ++ [x]) a (by rw [e]; simp)
    rw [List.length_append, List.length_singleton, show ((A.length + 1 : Nat) : Int) = (A.length : Int) + 1 by omega] at ih
    rw [w_132_4]
    unfold wti
    by_cases c1 : x.1 = g
    · simp (disch := omega) only [e_132, w_132_0, w_132_1, w_132_2, w_132_3, w_132_5, w_132_6, w_132_7, w_132_8, w_132_9, w_132_10, w_132_11, w_132_12, w_132_13, w_132_14, w_132_15, w_132_16, w_132_17, w_132_18, w_132_19, w_132_20, w_132_21, w_132_22, w_132_23, w_132_24, w_132_25, w_132_26, w_132_27, getK, putK, ialK, iasK, aalK, aasK, alnK, zgt_u, zgt_a, Option.toList_some, Option.toList_none, List.cons_append, List.nil_append, List.map_cons, List.map_nil, List.replicate, ite_true, ite_false, if_true, if_false, List.getElem?_cons_zero, List.getElem?_cons_succ, List.set_cons_zero, List.set_cons_succ, true_and, and_true, beq_self_eq_true, zite, Int.toNat_natCast, if_pos, if_neg, zwr_id, zand, zrc hO, s6_items hO hW hf, s6_groupAt hO hW hf, s6_weightAt hO hW hf, hw, hx, hxw]
      rw [ih (a + x.2.2) (by omega) (by omega), Int.add_assoc]
    · simp (disch := omega) only [e_132, w_132_0, w_132_1, w_132_2, w_132_3, w_132_5, w_132_6, w_132_7, w_132_8, w_132_9, w_132_10, w_132_11, w_132_12, w_132_13, w_132_14, w_132_15, w_132_16, w_132_17, w_132_18, w_132_19, w_132_20, w_132_21, w_132_22, w_132_23, w_132_24, w_132_25, w_132_26, w_132_27, getK, putK, ialK, iasK, aalK, aasK, alnK, zgt_u, zgt_a, Option.toList_some, Option.toList_none, List.cons_append, List.nil_append, List.map_cons, List.map_nil, List.replicate, ite_true, ite_false, if_true, if_false, List.getElem?_cons_zero, List.getElem?_cons_succ, List.set_cons_zero, List.set_cons_succ, true_and, and_true, beq_self_eq_true, zite, Int.toNat_natCast, if_pos, if_neg, zwr_id, zand, zrc hO, s6_items hO hW hf, s6_groupAt hO hW hf, hw, hx, Int.add_zero, Int.zero_add]
      rw [ih a (by omega) (by omega)]
theorem s6_weightsIn {f g : Int} (hO : zgt h 24 = .inl (6, [.inr (.inl (some 25)), .inr (.inl (some 26)), .inl (pm), .inr (.inl (some 27)), .inl ( fl), .inl ( p), .inr (.inl (some 28)), .inl ( n), .inr (.inl (some 29)), .inr (.inl (some 30)), .inr (.inl (some 31))])) (hW : zgt h 25 = .inr (.inl (437, w))) (hf : 0 ≤ f ∧ f ≤ 1) {M : List zI} (hF : rF w (49 + 193 * f) M) (hl : M.length ≤ 64) (ho : okIs M) : zca sc 132 [.inr (.inl (some 24)), .inl f, .inl g] h Q = Q (some (.inl (wti g M))) h := by
  simp (disch := omega) only [e_132, w_132_0, w_132_1, w_132_2, w_132_3, w_132_5, w_132_6, w_132_7, w_132_8, w_132_9, w_132_10, w_132_11, w_132_12, w_132_13, w_132_14, w_132_15, w_132_16, w_132_17, w_132_18, w_132_19, w_132_20, w_132_21, w_132_22, w_132_23, w_132_24, w_132_25, w_132_26, w_132_27, getK, putK, ialK, iasK, aalK, aasK, alnK, zgt_u, zgt_a, Option.toList_some, Option.toList_none, List.cons_append, List.nil_append, List.map_cons, List.map_nil, List.replicate, ite_true, ite_false, if_true, if_false, List.getElem?_cons_zero, List.getElem?_cons_succ, List.set_cons_zero, List.set_cons_succ, true_and, and_true, beq_self_eq_true, zite, Int.toNat_natCast, if_pos, if_neg, zwr_id, zand]
  have := lp_weightsIn6 (sc := sc) (Q := Q) (g := g) hO hW hf hF hl ho M [] 0 rfl (by simp) (by simp)
  rw [Int.zero_add] at this
  exact this
theorem wsum_b : ∀ {L : List zI}, okIs L → -99 * (L.length : Int) ≤ wsum L ∧ wsum L ≤ 99 * L.length
  | [], _ => by simp [wsum]
  | x :: L, h => by
    have h := okIs_c.mp h
    have := wsum_b h.2
    have h2 := h.1.2.2.2
    unfold wsum
    simp only [List.length_cons]
    omega
theorem lp_allWeights (hO : zgt h 24 = .inl (6, [.inr (.inl (some 25)), .inr (.inl (some 26)), .inl (pm), .inr (.inl (some 27)), .inl ( fl), .inl ( p), .inr (.inl (some 28)), .inl ( n), .inr (.inl (some 29)), .inr (.inl (some 30)), .inr (.inl (some 31))])) (hW : zgt h 25 = .inr (.inl (437, w))) {L : List zI} (hL : rL w L) (hl : L.length ≤ 24) (ho : okIs L) : ∀ (B A : List zI) (a : Int), L = A ++ B → -99 * (A.length : Int) ≤ a → a ≤ 99 * A.length → zwp sc 122 4 [some (.inr (.inl (some 24))), some (.inl a), some (.inl (A.length : Int))] [] h Q = Q (some (.inl (a + wsum B))) h := by
  intro B
  induction B with
  | nil =>
    intro A a e ha ha2
    rw [List.append_nil] at e
    subst e
    have hw := hL.1
    rw [w_122_4]
    simp (disch := omega) only [e_122, w_122_0, w_122_1, w_122_2, w_122_3, w_122_5, w_122_6, w_122_7, w_122_8, w_122_9, w_122_10, w_122_11, w_122_12, w_122_13, w_122_14, w_122_15, w_122_16, w_122_17, w_122_18, w_122_19, w_122_20, w_122_21, w_122_22, getK, putK, ialK, iasK, aalK, aasK, alnK, zgt_u, zgt_a, Option.toList_some, Option.toList_none, List.cons_append, List.nil_append, List.map_cons, List.map_nil, List.replicate, ite_true, ite_false, if_true, if_false, List.getElem?_cons_zero, List.getElem?_cons_succ, List.set_cons_zero, List.set_cons_succ, true_and, and_true, beq_self_eq_true, zite, Int.toNat_natCast, if_pos, if_neg, zwr_id, zand, hO, hW, hw]
    unfold wsum
    rw [Int.add_zero]
  | cons x B ih =>
    intro A a e ha ha2
    have hw := hL.1
    have hlen : L.length = A.length + (B.length + 1) := by rw [e]; simp
    have hxo := (ho x (by rw [e]; simp)).2.2.2
    have hx := (hL.2 A.length (by omega) (by omega)).2
    rw [e, gI_app] at hx
    have ih := fun a => ih (A ++ [x]) a (by rw [e]; simp)
    rw [List.length_append, List.length_singleton, show ((A.length + 1 : Nat) : Int) = (A.length : Int) + 1 by omega] at ih
    rw [w_122_4]
    unfold wsum
    simp (disch := omega) only [e_122, w_122_0, w_122_1, w_122_2, w_122_3, w_122_5, w_122_6, w_122_7, w_122_8, w_122_9, w_122_10, w_122_11, w_122_12, w_122_13, w_122_14, w_122_15, w_122_16, w_122_17, w_122_18, w_122_19, w_122_20, w_122_21, w_122_22, getK, putK, ialK, iasK, aalK, aasK, alnK, zgt_u, zgt_a, Option.toList_some, Option.toList_none, List.cons_append, List.nil_append, List.map_cons, List.map_nil, List.replicate, ite_true, ite_false, if_true, if_false, List.getElem?_cons_zero, List.getElem?_cons_succ, List.set_cons_zero, List.set_cons_succ, true_and, and_true, beq_self_eq_true, zite, Int.toNat_natCast, if_pos, if_neg, zwr_id, zand, hO, hW, hw, hx]
    rw [ih (a + x.2.2) (by omega) (by omega), Int.add_assoc]
theorem s6_allWeights (hO : zgt h 24 = .inl (6, [.inr (.inl (some 25)), .inr (.inl (some 26)), .inl (pm), .inr (.inl (some 27)), .inl ( fl), .inl ( p), .inr (.inl (some 28)), .inl ( n), .inr (.inl (some 29)), .inr (.inl (some 30)), .inr (.inl (some 31))])) (hW : zgt h 25 = .inr (.inl (437, w))) {L : List zI} (hL : rL w L) (hl : L.length ≤ 24) (ho : okIs L) : zca sc 122 [.inr (.inl (some 24))] h Q = Q (some (.inl (wsum L))) h := by
  simp (disch := omega) only [e_122, w_122_0, w_122_1, w_122_2, w_122_3, w_122_5, w_122_6, w_122_7, w_122_8, w_122_9, w_122_10, w_122_11, w_122_12, w_122_13, w_122_14, w_122_15, w_122_16, w_122_17, w_122_18, w_122_19, w_122_20, w_122_21, w_122_22, getK, putK, ialK, iasK, aalK, aasK, alnK, zgt_u, zgt_a, Option.toList_some, Option.toList_none, List.cons_append, List.nil_append, List.map_cons, List.map_nil, List.replicate, ite_true, ite_false, if_true, if_false, List.getElem?_cons_zero, List.getElem?_cons_succ, List.set_cons_zero, List.set_cons_succ, true_and, and_true, beq_self_eq_true, zite, Int.toNat_natCast, if_pos, if_neg, zwr_id, zand]
  have := lp_allWeights (sc := sc) (Q := Q) hO hW hL hl ho L [] 0 rfl (by simp) (by simp)
  rw [Int.zero_add] at this
  exact this
theorem lp_fullGroups {M0 M1 : List zI} (hO : zgt h 24 = .inl (6, [.inr (.inl (some 25)), .inr (.inl (some 26)), .inl (pm), .inr (.inl (some 27)), .inl ( fl), .inl ( p), .inr (.inl (some 28)), .inl ( n), .inr (.inl (some 29)), .inr (.inl (some 30)), .inr (.inl (some 31))])) (hW : zgt h 25 = .inr (.inl (437, w))) (hF0 : rF w 49 M0) (hF1 : rF w 242 M1) (hl0 : M0.length ≤ 64) (hl1 : M1.length ≤ 64) : ∀ (j : Nat) (g a : Int), g + j = 7 → 0 ≤ g → 0 ≤ a → a ≤ 2 * g → zwp sc 123 4 [some (.inr (.inl (some 24))), some (.inl a), some (.inl g)] [] h Q = Q (some (.inl (a + (guc M0 j g + guc M1 j g)))) h := by
  have i0 : ∀ (g : Int) (Q : Option zV → zH → Prop), zca sc 108 [.inr (.inl (some 24)), .inl 0, .inl g] h Q = Q (some (.inl (cti g M0))) h := fun g Q => s6_itemsIn hO hW (by omega) hF0 hl0
  have i1 : ∀ (g : Int) (Q : Option zV → zH → Prop), zca sc 108 [.inr (.inl (some 24)), .inl 1, .inl g] h Q = Q (some (.inl (cti g M1))) h := fun g Q => s6_itemsIn hO hW (by omega) hF1 hl1
  intro j
  induction j with
  | zero =>
    intro g a hg h0 ha hag
    rw [w_123_4]
    simp (disch := omega) only [e_123, w_123_0, w_123_1, w_123_2, w_123_3, w_123_5, w_123_6, w_123_7, w_123_8, w_123_9, w_123_10, w_123_11, w_123_12, w_123_13, w_123_14, w_123_15, w_123_16, w_123_17, w_123_18, w_123_19, w_123_20, w_123_21, w_123_22, w_123_23, w_123_24, w_123_25, w_123_26, w_123_27, w_123_28, w_123_29, w_123_30, w_123_31, w_123_32, getK, putK, ialK, iasK, aalK, aasK, alnK, zgt_u, zgt_a, Option.toList_some, Option.toList_none, List.cons_append, List.nil_append, List.map_cons, List.map_nil, List.replicate, ite_true, ite_false, if_true, if_false, List.getElem?_cons_zero, List.getElem?_cons_succ, List.set_cons_zero, List.set_cons_succ, true_and, and_true, beq_self_eq_true, zite, Int.toNat_natCast, if_pos, if_neg, zwr_id, zand]
    simp [guc]
  | succ j ih =>
    intro g a hg h0 ha hag
    rw [w_123_4]
    unfold guc
    by_cases c0 : 0 < cti g M0
    · by_cases c1 : 0 < cti g M1
      · simp (disch := omega) only [e_123, w_123_0, w_123_1, w_123_2, w_123_3, w_123_5, w_123_6, w_123_7, w_123_8, w_123_9, w_123_10, w_123_11, w_123_12, w_123_13, w_123_14, w_123_15, w_123_16, w_123_17, w_123_18, w_123_19, w_123_20, w_123_21, w_123_22, w_123_23, w_123_24, w_123_25, w_123_26, w_123_27, w_123_28, w_123_29, w_123_30, w_123_31, w_123_32, getK, putK, ialK, iasK, aalK, aasK, alnK, zgt_u, zgt_a, Option.toList_some, Option.toList_none, List.cons_append, List.nil_append, List.map_cons, List.map_nil, List.replicate, ite_true, ite_false, if_true, if_false, List.getElem?_cons_zero, List.getElem?_cons_succ, List.set_cons_zero, List.set_cons_succ, true_and, and_true, beq_self_eq_true, zite, Int.toNat_natCast, if_pos, if_neg, zwr_id, zand, zrc hO, i0, i1]
        rw [ih (g + 1) (a + 1 + 1) (by omega) (by omega) (by omega) (by omega)]
        rw [show a + 1 + 1 + (guc M0 j (g + 1) + guc M1 j (g + 1)) = a + (1 + guc M0 j (g + 1) + (1 + guc M1 j (g + 1))) by omega]
      · simp (disch := omega) only [e_123, w_123_0, w_123_1, w_123_2, w_123_3, w_123_5, w_123_6, w_123_7, w_123_8, w_123_9, w_123_10, w_123_11, w_123_12, w_123_13, w_123_14, w_123_15, w_123_16, w_123_17, w_123_18, w_123_19, w_123_20, w_123_21, w_123_22, w_123_23, w_123_24, w_123_25, w_123_26, w_123_27, w_123_28, w_123_29, w_123_30, w_123_31, w_123_32, getK, putK, ialK, iasK, aalK, aasK, alnK, zgt_u, zgt_a, Option.toList_some, Option.toList_none, List.cons_append, List.nil_append, List.map_cons, List.map_nil, List.replicate, ite_true, ite_false, if_true, if_false, List.getElem?_cons_zero, List.getElem?_cons_succ, List.set_cons_zero, List.set_cons_succ, true_and, and_true, beq_self_eq_true, zite, Int.toNat_natCast, if_pos, if_neg, zwr_id, zand, zrc hO, i0, i1]
        rw [ih (g + 1) (a + 1 + 0) (by omega) (by omega) (by omega) (by omega)]
        rw [show a + 1 + 0 + (guc M0 j (g + 1) + guc M1 j (g + 1)) = a + (1 + guc M0 j (g + 1) + (0 + guc M1 j (g + 1))) by omega]
    · by_cases c1 : 0 < cti g M1
      · simp (disch := omega) only [e_123, w_123_0, w_123_1, w_123_2, w_123_3, w_123_5, w_123_6, w_123_7, w_123_8, w_123_9, w_123_10, w_123_11, w_123_12, w_123_13, w_123_14, w_123_15, w_123_16, w_123_17, w_123_18, w_123_19, w_123_20, w_123_21, w_123_22, w_123_23, w_123_24, w_123_25, w_123_26, w_123_27, w_123_28, w_123_29, w_123_30, w_123_31, w_123_32, getK, putK, ialK, iasK, aalK, aasK, alnK, zgt_u, zgt_a, Option.toList_some, Option.toList_none, List.cons_append, List.nil_append, List.map_cons, List.map_nil, List.replicate, ite_true, ite_false, if_true, if_false, List.getElem?_cons_zero, List.getElem?_cons_succ, List.set_cons_zero, List.set_cons_succ, true_and, and_true, beq_self_eq_true, zite, Int.toNat_natCast, if_pos, if_neg, zwr_id, zand, zrc hO, i0, i1]
        rw [ih (g + 1) (a + 0 + 1) (by omega) (by omega) (by omega) (by omega)]
        rw [show a + 0 + 1 + (guc M0 j (g + 1) + guc M1 j (g + 1)) = a + (0 + guc M0 j (g + 1) + (1 + guc M1 j (g + 1))) by omega]
      · simp (disch := omega) only [e_123, w_123_0, w_123_1, w_123_2, w_123_3, w_123_5, w_123_6, w_123_7, w_123_8, w_123_9, w_123_10, w_123_11, w_123_12, w_123_13, w_123_14, w_123_15, w_123_16, w_123_17, w_123_18, w_123_19, w_123_20, w_123_21, w_123_22, w_123_23, w_123_24, w_123_25, w_123_26, w_123_27, w_123_28, w_123_29, w_123_30, w_123_31, w_123_32, getK, putK, ialK, iasK, aalK, aasK, alnK, zgt_u, zgt_a, Option.toList_some, Option.toList_none, List.cons_append, List.nil_append, List.map_cons, List.map_nil, List.replicate, ite_true, ite_false, if_true, if_false, List.getElem?_cons_zero, List.getElem?_cons_succ, List.set_cons_zero, List.set_cons_succ, true_and, and_true, beq_self_eq_true, zite, Int.toNat_natCast, if_pos, if_neg, zwr_id, zand, zrc hO, i0, i1]
        rw [ih (g + 1) (a + 0 + 0) (by omega) (by omega) (by omega) (by omega)]
        rw [show a + 0 + 0 + (guc M0 j (g + 1) + guc M1 j (g + 1)) = a + (0 + guc M0 j (g + 1) + (0 + guc M1 j (g + 1))) by omega]
theorem s6_fullGroups {M0 M1 : List zI} (hO : zgt h 24 = .inl (6, [.inr (.inl (some 25)), .inr (.inl (some 26)), .inl (pm), .inr (.inl (some 27)), .inl ( fl), .inl ( p), .inr (.inl (some 28)), .inl ( n), .inr (.inl (some 29)), .inr (.inl (some 30)), .inr (.inl (some 31))])) (hW : zgt h 25 = .inr (.inl (437, w))) (hF0 : rF w 49 M0) (hF1 : rF w 242 M1) (hl0 : M0.length ≤ 64) (hl1 : M1.length ≤ 64) : zca sc 123 [.inr (.inl (some 24))] h Q = Q (some (.inl (guc M0 7 0 + guc M1 7 0))) h := by
  simp (disch := omega) only [e_123, w_123_0, w_123_1, w_123_2, w_123_3, w_123_5, w_123_6, w_123_7, w_123_8, w_123_9, w_123_10, w_123_11, w_123_12, w_123_13, w_123_14, w_123_15, w_123_16, w_123_17, w_123_18, w_123_19, w_123_20, w_123_21, w_123_22, w_123_23, w_123_24, w_123_25, w_123_26, w_123_27, w_123_28, w_123_29, w_123_30, w_123_31, w_123_32, getK, putK, ialK, iasK, aalK, aasK, alnK, zgt_u, zgt_a, Option.toList_some, Option.toList_none, List.cons_append, List.nil_append, List.map_cons, List.map_nil, List.replicate, ite_true, ite_false, if_true, if_false, List.getElem?_cons_zero, List.getElem?_cons_succ, List.set_cons_zero, List.set_cons_succ, true_and, and_true, beq_self_eq_true, zite, Int.toNat_natCast, if_pos, if_neg, zwr_id, zand]
  have := lp_fullGroups (sc := sc) (Q := Q) hO hW hF0 hF1 hl0 hl1 7 0 0 (by omega) (by omega) (by omega) (by omega)
  rw [Int.zero_add] at this
  exact this
end
section
variable {sc : Nat × (Int → Int)} {h : zH} {Q : Option zV → zH → Prop} {z : zS}
theorem s6_told {x : Int} (hM : rM h z) (hz : okZ z) : zca sc 124 [.inr (.inl (some 24)), .inl x] h Q = Q (some (.inl (toS z x))) h := by
  obtain ⟨m0, ⟨w, m1, l1, l2, l3, l4, l5⟩, -⟩ := id hM
  obtain ⟨o1, o2, o3, o4, o5, o6, o7, -⟩ := id hz.1
  have hp := okZ_p hz
  have w0 := l1.1
  have w1 := l2.1
  have w2 := l3.1
  have i0 : ∀ (Q : Option zV → zH → Prop), zca sc 104 [.inr (.inl (some 24)), .inl 0] h Q = Q (some (.inl (w 49))) h := fun Q => s6_items m0 m1 (by omega)
  have i1 : ∀ (Q : Option zV → zH → Prop), zca sc 104 [.inr (.inl (some 24)), .inl 1] h Q = Q (some (.inl (w 242))) h := fun Q => s6_items m0 m1 (by omega)
  unfold toS
  by_cases k0 : x = 0
  · subst k0
    simp (disch := omega) only [e_124, w_124_0, w_124_1, w_124_2, w_124_3, w_124_4, w_124_5, w_124_6, w_124_7, w_124_8, w_124_9, w_124_10, w_124_11, w_124_12, w_124_13, w_124_14, w_124_15, w_124_16, w_124_17, w_124_18, w_124_19, w_124_20, w_124_21, w_124_22, w_124_23, w_124_24, w_124_25, w_124_26, w_124_27, w_124_28, w_124_29, w_124_30, w_124_31, w_124_32, w_124_33, w_124_34, w_124_35, w_124_36, w_124_37, w_124_38, w_124_39, w_124_40, w_124_41, w_124_42, getK, putK, ialK, iasK, aalK, aasK, alnK, zgt_u, zgt_a, Option.toList_some, Option.toList_none, List.cons_append, List.nil_append, List.map_cons, List.map_nil, List.replicate, ite_true, ite_false, if_true, if_false, List.getElem?_cons_zero, List.getElem?_cons_succ, List.set_cons_zero, List.set_cons_succ, true_and, and_true, beq_self_eq_true, zite, Int.toNat_natCast, if_pos, if_neg, zwr_id, zand, m0, m1, w0]
  by_cases k1 : x = 1
  · subst k1
    simp (disch := omega) only [e_124, w_124_0, w_124_1, w_124_2, w_124_3, w_124_4, w_124_5, w_124_6, w_124_7, w_124_8, w_124_9, w_124_10, w_124_11, w_124_12, w_124_13, w_124_14, w_124_15, w_124_16, w_124_17, w_124_18, w_124_19, w_124_20, w_124_21, w_124_22, w_124_23, w_124_24, w_124_25, w_124_26, w_124_27, w_124_28, w_124_29, w_124_30, w_124_31, w_124_32, w_124_33, w_124_34, w_124_35, w_124_36, w_124_37, w_124_38, w_124_39, w_124_40, w_124_41, w_124_42, getK, putK, ialK, iasK, aalK, aasK, alnK, zgt_u, zgt_a, Option.toList_some, Option.toList_none, List.cons_append, List.nil_append, List.map_cons, List.map_nil, List.replicate, ite_true, ite_false, if_true, if_false, List.getElem?_cons_zero, List.getElem?_cons_succ, List.set_cons_zero, List.set_cons_succ, true_and, and_true, beq_self_eq_true, zite, Int.toNat_natCast, if_pos, if_neg, zwr_id, zand, zrc m0, i0, w1]
  by_cases k2 : x = 2
  · subst k2
    simp (disch := omega) only [e_124, w_124_0, w_124_1, w_124_2, w_124_3, w_124_4, w_124_5, w_124_6, w_124_7, w_124_8, w_124_9, w_124_10, w_124_11, w_124_12, w_124_13, w_124_14, w_124_15, w_124_16, w_124_17, w_124_18, w_124_19, w_124_20, w_124_21, w_124_22, w_124_23, w_124_24, w_124_25, w_124_26, w_124_27, w_124_28, w_124_29, w_124_30, w_124_31, w_124_32, w_124_33, w_124_34, w_124_35, w_124_36, w_124_37, w_124_38, w_124_39, w_124_40, w_124_41, w_124_42, getK, putK, ialK, iasK, aalK, aasK, alnK, zgt_u, zgt_a, Option.toList_some, Option.toList_none, List.cons_append, List.nil_append, List.map_cons, List.map_nil, List.replicate, ite_true, ite_false, if_true, if_false, List.getElem?_cons_zero, List.getElem?_cons_succ, List.set_cons_zero, List.set_cons_succ, true_and, and_true, beq_self_eq_true, zite, Int.toNat_natCast, if_pos, if_neg, zwr_id, zand, zrc m0, i1, w2]
  by_cases k3 : x = 3
  · subst k3
    simp (disch := omega) only [e_124, w_124_0, w_124_1, w_124_2, w_124_3, w_124_4, w_124_5, w_124_6, w_124_7, w_124_8, w_124_9, w_124_10, w_124_11, w_124_12, w_124_13, w_124_14, w_124_15, w_124_16, w_124_17, w_124_18, w_124_19, w_124_20, w_124_21, w_124_22, w_124_23, w_124_24, w_124_25, w_124_26, w_124_27, w_124_28, w_124_29, w_124_30, w_124_31, w_124_32, w_124_33, w_124_34, w_124_35, w_124_36, w_124_37, w_124_38, w_124_39, w_124_40, w_124_41, w_124_42, getK, putK, ialK, iasK, aalK, aasK, alnK, zgt_u, zgt_a, Option.toList_some, Option.toList_none, List.cons_append, List.nil_append, List.map_cons, List.map_nil, List.replicate, ite_true, ite_false, if_true, if_false, List.getElem?_cons_zero, List.getElem?_cons_succ, List.set_cons_zero, List.set_cons_succ, true_and, and_true, beq_self_eq_true, zite, Int.toNat_natCast, if_pos, if_neg, zwr_id, zand, m0, m1, l4]
  by_cases k4 : x = 4
  · subst k4
    simp (disch := omega) only [e_124, w_124_0, w_124_1, w_124_2, w_124_3, w_124_4, w_124_5, w_124_6, w_124_7, w_124_8, w_124_9, w_124_10, w_124_11, w_124_12, w_124_13, w_124_14, w_124_15, w_124_16, w_124_17, w_124_18, w_124_19, w_124_20, w_124_21, w_124_22, w_124_23, w_124_24, w_124_25, w_124_26, w_124_27, w_124_28, w_124_29, w_124_30, w_124_31, w_124_32, w_124_33, w_124_34, w_124_35, w_124_36, w_124_37, w_124_38, w_124_39, w_124_40, w_124_41, w_124_42, getK, putK, ialK, iasK, aalK, aasK, alnK, zgt_u, zgt_a, Option.toList_some, Option.toList_none, List.cons_append, List.nil_append, List.map_cons, List.map_nil, List.replicate, ite_true, ite_false, if_true, if_false, List.getElem?_cons_zero, List.getElem?_cons_succ, List.set_cons_zero, List.set_cons_succ, true_and, and_true, beq_self_eq_true, zite, Int.toNat_natCast, if_pos, if_neg, zwr_id, zand, m0, m1, l5]
  by_cases k5 : x = 5
  · subst k5
    simp (disch := omega) only [e_124, w_124_0, w_124_1, w_124_2, w_124_3, w_124_4, w_124_5, w_124_6, w_124_7, w_124_8, w_124_9, w_124_10, w_124_11, w_124_12, w_124_13, w_124_14, w_124_15, w_124_16, w_124_17, w_124_18, w_124_19, w_124_20, w_124_21, w_124_22, w_124_23, w_124_24, w_124_25, w_124_26, w_124_27, w_124_28, w_124_29, w_124_30, w_124_31, w_124_32, w_124_33, w_124_34, w_124_35, w_124_36, w_124_37, w_124_38, w_124_39, w_124_40, w_124_41, w_124_42, getK, putK, ialK, iasK, aalK, aasK, alnK, zgt_u, zgt_a, Option.toList_some, Option.toList_none, List.cons_append, List.nil_append, List.map_cons, List.map_nil, List.replicate, ite_true, ite_false, if_true, if_false, List.getElem?_cons_zero, List.getElem?_cons_succ, List.set_cons_zero, List.set_cons_succ, true_and, and_true, beq_self_eq_true, zite, Int.toNat_natCast, if_pos, if_neg, zwr_id, zand, zrc m0, s6_allWeights m0 m1 l1 o5 o1]
  by_cases k6 : x = 6
  · subst k6
    simp (disch := omega) only [e_124, w_124_0, w_124_1, w_124_2, w_124_3, w_124_4, w_124_5, w_124_6, w_124_7, w_124_8, w_124_9, w_124_10, w_124_11, w_124_12, w_124_13, w_124_14, w_124_15, w_124_16, w_124_17, w_124_18, w_124_19, w_124_20, w_124_21, w_124_22, w_124_23, w_124_24, w_124_25, w_124_26, w_124_27, w_124_28, w_124_29, w_124_30, w_124_31, w_124_32, w_124_33, w_124_34, w_124_35, w_124_36, w_124_37, w_124_38, w_124_39, w_124_40, w_124_41, w_124_42, getK, putK, ialK, iasK, aalK, aasK, alnK, zgt_u, zgt_a, Option.toList_some, Option.toList_none, List.cons_append, List.nil_append, List.map_cons, List.map_nil, List.replicate, ite_true, ite_false, if_true, if_false, List.getElem?_cons_zero, List.getElem?_cons_succ, List.set_cons_zero, List.set_cons_succ, true_and, and_true, beq_self_eq_true, zite, Int.toNat_natCast, if_pos, if_neg, zwr_id, zand, m0, s_lettersOf6]
  by_cases k7 : x = 7
  · subst k7
    simp (disch := omega) only [e_124, w_124_0, w_124_1, w_124_2, w_124_3, w_124_4, w_124_5, w_124_6, w_124_7, w_124_8, w_124_9, w_124_10, w_124_11, w_124_12, w_124_13, w_124_14, w_124_15, w_124_16, w_124_17, w_124_18, w_124_19, w_124_20, w_124_21, w_124_22, w_124_23, w_124_24, w_124_25, w_124_26, w_124_27, w_124_28, w_124_29, w_124_30, w_124_31, w_124_32, w_124_33, w_124_34, w_124_35, w_124_36, w_124_37, w_124_38, w_124_39, w_124_40, w_124_41, w_124_42, getK, putK, ialK, iasK, aalK, aasK, alnK, zgt_u, zgt_a, Option.toList_some, Option.toList_none, List.cons_append, List.nil_append, List.map_cons, List.map_nil, List.replicate, ite_true, ite_false, if_true, if_false, List.getElem?_cons_zero, List.getElem?_cons_succ, List.set_cons_zero, List.set_cons_succ, true_and, and_true, beq_self_eq_true, zite, Int.toNat_natCast, if_pos, if_neg, zwr_id, zand, m0]
  by_cases k8 : x = 8
  · subst k8
    simp (disch := omega) only [e_124, w_124_0, w_124_1, w_124_2, w_124_3, w_124_4, w_124_5, w_124_6, w_124_7, w_124_8, w_124_9, w_124_10, w_124_11, w_124_12, w_124_13, w_124_14, w_124_15, w_124_16, w_124_17, w_124_18, w_124_19, w_124_20, w_124_21, w_124_22, w_124_23, w_124_24, w_124_25, w_124_26, w_124_27, w_124_28, w_124_29, w_124_30, w_124_31, w_124_32, w_124_33, w_124_34, w_124_35, w_124_36, w_124_37, w_124_38, w_124_39, w_124_40, w_124_41, w_124_42, getK, putK, ialK, iasK, aalK, aasK, alnK, zgt_u, zgt_a, Option.toList_some, Option.toList_none, List.cons_append, List.nil_append, List.map_cons, List.map_nil, List.replicate, ite_true, ite_false, if_true, if_false, List.getElem?_cons_zero, List.getElem?_cons_succ, List.set_cons_zero, List.set_cons_succ, true_and, and_true, beq_self_eq_true, zite, Int.toNat_natCast, if_pos, if_neg, zwr_id, zand, m0]
  by_cases k9 : x = 9
  · subst k9
    simp (disch := omega) only [e_124, w_124_0, w_124_1, w_124_2, w_124_3, w_124_4, w_124_5, w_124_6, w_124_7, w_124_8, w_124_9, w_124_10, w_124_11, w_124_12, w_124_13, w_124_14, w_124_15, w_124_16, w_124_17, w_124_18, w_124_19, w_124_20, w_124_21, w_124_22, w_124_23, w_124_24, w_124_25, w_124_26, w_124_27, w_124_28, w_124_29, w_124_30, w_124_31, w_124_32, w_124_33, w_124_34, w_124_35, w_124_36, w_124_37, w_124_38, w_124_39, w_124_40, w_124_41, w_124_42, getK, putK, ialK, iasK, aalK, aasK, alnK, zgt_u, zgt_a, Option.toList_some, Option.toList_none, List.cons_append, List.nil_append, List.map_cons, List.map_nil, List.replicate, ite_true, ite_false, if_true, if_false, List.getElem?_cons_zero, List.getElem?_cons_succ, List.set_cons_zero, List.set_cons_succ, true_and, and_true, beq_self_eq_true, zite, Int.toNat_natCast, if_pos, if_neg, zwr_id, zand, zrc m0, s6_fullGroups m0 m1 l2 l3 (by omega) (by omega)]
  simp (disch := omega) only [e_124, w_124_0, w_124_1, w_124_2, w_124_3, w_124_4, w_124_5, w_124_6, w_124_7, w_124_8, w_124_9, w_124_10, w_124_11, w_124_12, w_124_13, w_124_14, w_124_15, w_124_16, w_124_17, w_124_18, w_124_19, w_124_20, w_124_21, w_124_22, w_124_23, w_124_24, w_124_25, w_124_26, w_124_27, w_124_28, w_124_29, w_124_30, w_124_31, w_124_32, w_124_33, w_124_34, w_124_35, w_124_36, w_124_37, w_124_38, w_124_39, w_124_40, w_124_41, w_124_42, getK, putK, ialK, iasK, aalK, aasK, alnK, zgt_u, zgt_a, Option.toList_some, Option.toList_none, List.cons_append, List.nil_append, List.map_cons, List.map_nil, List.replicate, ite_true, ite_false, if_true, if_false, List.getElem?_cons_zero, List.getElem?_cons_succ, List.set_cons_zero, List.set_cons_succ, true_and, and_true, beq_self_eq_true, zite, Int.toNat_natCast, if_pos, if_neg, zwr_id, zand, m0]
end
