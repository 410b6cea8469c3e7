/-! SMALL METHODS OF NUMBERS ALONE -/
theorem zb_and (p q : Prop) [Decidable p] [Decidable q] : (Int32.ofInt (zb p) &&& Int32.ofInt (zb q)).toInt = zb (p ∧ q) := by
  by_cases h1 : p <;> by_cases h2 : q <;> simp only [zb, h1, h2, if_true, if_false, and_self, and_true, true_and, false_and, and_false] <;> decide
theorem zb_01 (p : Prop) [Decidable p] : zb p = 0 ∨ zb p = 1 := by by_cases h : p <;> simp [zb, h]
theorem zb_ne (p : Prop) [Decidable p] : (zb p ≠ 0) = p := by by_cases h : p <;> simp [zb, h]
theorem zb_eq (p : Prop) [Decidable p] : (zb p = 0) = ¬ p := by by_cases h : p <;> simp [zb, h]
theorem zb_if {p : Prop} [Decidable p] {α : Type} {f : Int → α} : f (zb p) = if p then f 1 else f 0 := by by_cases h : p <;> simp [zb, h]
theorem zb_cg {p q : Prop} [Decidable p] [Decidable q] (h : p ↔ q) : zb p = zb q := by simp only [zb, h]
section
variable {sc : Nat × (Int → Int)} {h : zH} {Q : Option zV → zH → Prop}
theorem lp_ten (n : Int) (hn : n ≤ 9) : ∀ (j k : Nat), (k : Int) + j = n → zwp sc 94 4 [some (.inl n), some (.inl (tp k)), some (.inl k)] [] h Q = Q (some (.inl (tp n.toNat))) h := by
  intro j
  induction j with
  | zero =>
    intro k hk
    rw [w_94_4]
    simp (disch := omega) only [e_94, w_94_0, w_94_1, w_94_2, w_94_3, w_94_5, w_94_6, w_94_7, w_94_8, w_94_9, w_94_10, w_94_11, w_94_12, w_94_13, w_94_14, getK, putK, ialK, iasK, aalK, aasK, alnK, zgt_u, zgt_a, Option.toList_some, Option.toList_none, List.cons_append, List.nil_append, List.map_cons, List.map_nil, List.replicate, ite_true, ite_false, if_true, if_false, List.getElem?_cons_zero, List.getElem?_cons_succ, List.set_cons_zero, List.set_cons_succ, true_and, and_true, beq_self_eq_true, zite, Int.toNat_natCast, if_pos, if_neg, zwr_id, zand]
    rw [show n.toNat = k by omega]
  | succ j ih =>
    intro k hk
    have h9 : ∀ k, k ≤ 8 → tp k * 10 ≤ 1000000000 := by decide
    have := h9 k (by omega)
    have := tp_pos k
    have e : tp k * 10 = tp (k + 1) := by show _ = 10 * tp k; omega
    rw [w_94_4]
    simp (disch := omega) only [e_94, w_94_0, w_94_1, w_94_2, w_94_3, w_94_5, w_94_6, w_94_7, w_94_8, w_94_9, w_94_10, w_94_11, w_94_12, w_94_13, w_94_14, getK, putK, ialK, iasK, aalK, aasK, alnK, zgt_u, zgt_a, Option.toList_some, Option.toList_none, List.cons_append, List.nil_append, List.map_cons, List.map_nil, List.replicate, ite_true, ite_false, if_true, if_false, List.getElem?_cons_zero, List.getElem?_cons_succ, List.set_cons_zero, List.set_cons_succ, true_and, and_true, beq_self_eq_true, zite, Int.toNat_natCast, if_pos, if_neg, zwr_id, zand]
    rw [e, show (k : Int) + 1 = ((k + 1 : Nat) : Int) by omega]
    exact ih (k + 1) (by omega)
theorem s_ten {n : Int} (h0 : 0 ≤ n) (hn : n ≤ 9) : zca sc 94 [.inl n] h Q = Q (some (.inl (tp n.toNat))) h := by
  simp (disch := omega) only [e_94, w_94_0, w_94_1, w_94_2, w_94_3, w_94_5, w_94_6, w_94_7, w_94_8, w_94_9, w_94_10, w_94_11, w_94_12, w_94_13, w_94_14, getK, putK, ialK, iasK, aalK, aasK, alnK, zgt_u, zgt_a, Option.toList_some, Option.toList_none, List.cons_append, List.nil_append, List.map_cons, List.map_nil, List.replicate, ite_true, ite_false, if_true, if_false, List.getElem?_cons_zero, List.getElem?_cons_succ, List.set_cons_zero, List.set_cons_succ, true_and, and_true, beq_self_eq_true, zite, Int.toNat_natCast, if_pos, if_neg, zwr_id, zand]
  exact lp_ten n hn n.toNat 0 (by omega)
/-- the first n letters of a code -/
def bg (c n : Int) : Int := c / tp (nd c - n).toNat
theorem s_beginning {c n : Int} (hc : 0 ≤ c) (hc2 : c ≤ 999999) (hn : 0 ≤ n) (hn2 : n ≤ nd c) : zca sc 95 [.inl c, .inl n] h Q = Q (some (.inl (bg c n))) h := by
  have := nd_6 hc2
  have := tp_pos (nd c - n).toNat
  simp (disch := omega) only [e_95, w_95_0, w_95_1, w_95_2, w_95_3, w_95_4, w_95_5, w_95_6, w_95_7, getK, putK, ialK, iasK, aalK, aasK, alnK, zgt_u, zgt_a, Option.toList_some, Option.toList_none, List.cons_append, List.nil_append, List.map_cons, List.map_nil, List.replicate, ite_true, ite_false, if_true, if_false, List.getElem?_cons_zero, List.getElem?_cons_succ, List.set_cons_zero, List.set_cons_succ, true_and, and_true, beq_self_eq_true, zite, Int.toNat_natCast, if_pos, if_neg, zwr_id, zand, s_lettersOf6, s_ten]
  rfl
theorem lp_isWord5 (l0 : Option zV) : ∀ (k : Nat) (c : Int), c.toNat ≤ k → 0 ≤ c → zwp sc 88 10 [l0, some (.inl c)] [] h Q = Q (some (.inl (zb (dg c = true)))) h := by
  intro k
  induction k with
  | zero =>
    intro c hc h0
    rw [w_88_10, zb_t (dg_0 (by omega))]
    simp (disch := omega) only [e_88, w_88_0, w_88_1, w_88_2, w_88_3, w_88_4, w_88_5, w_88_6, w_88_7, w_88_8, w_88_9, w_88_11, w_88_12, w_88_13, w_88_14, w_88_15, w_88_16, w_88_17, w_88_18, w_88_19, w_88_20, w_88_21, w_88_22, w_88_23, w_88_24, w_88_25, w_88_26, w_88_27, w_88_28, w_88_29, w_88_30, getK, putK, ialK, iasK, aalK, aasK, alnK, zgt_u, zgt_a, Option.toList_some, Option.toList_none, List.cons_append, List.nil_append, List.map_cons, List.map_nil, List.replicate, ite_true, ite_false, if_true, if_false, List.getElem?_cons_zero, List.getElem?_cons_succ, List.set_cons_zero, List.set_cons_succ, true_and, and_true, beq_self_eq_true, zite, Int.toNat_natCast, if_pos, if_neg, zwr_id, zand, true_or, or_true]
  | succ k ih =>
    intro c hc h0
    by_cases hp : 0 < c
    · rw [w_88_10]
      by_cases h1 : 1 ≤ c % 10
      · by_cases h2 : c % 10 ≤ 4
        · simp (disch := omega) only [e_88, w_88_0, w_88_1, w_88_2, w_88_3, w_88_4, w_88_5, w_88_6, w_88_7, w_88_8, w_88_9, w_88_11, w_88_12, w_88_13, w_88_14, w_88_15, w_88_16, w_88_17, w_88_18, w_88_19, w_88_20, w_88_21, w_88_22, w_88_23, w_88_24, w_88_25, w_88_26, w_88_27, w_88_28, w_88_29, w_88_30, getK, putK, ialK, iasK, aalK, aasK, alnK, zgt_u, zgt_a, Option.toList_some, Option.toList_none, List.cons_append, List.nil_append, List.map_cons, List.map_nil, List.replicate, ite_true, ite_false, if_true, if_false, List.getElem?_cons_zero, List.getElem?_cons_succ, List.set_cons_zero, List.set_cons_succ, true_and, and_true, beq_self_eq_true, zite, Int.toNat_natCast, if_pos, if_neg, zwr_id, zand, true_or, or_true, ih]
          refine congrArg (fun z => Q (some (.inl z)) h) (zb_cg ?_)
          rw [dg_p hp]
          simp [h1, h2]
        · have : dg c ≠ true := by rw [dg_p hp]; simp [h2]
          rw [zb_f this]
          simp (disch := omega) only [e_88, w_88_0, w_88_1, w_88_2, w_88_3, w_88_4, w_88_5, w_88_6, w_88_7, w_88_8, w_88_9, w_88_11, w_88_12, w_88_13, w_88_14, w_88_15, w_88_16, w_88_17, w_88_18, w_88_19, w_88_20, w_88_21, w_88_22, w_88_23, w_88_24, w_88_25, w_88_26, w_88_27, w_88_28, w_88_29, w_88_30, getK, putK, ialK, iasK, aalK, aasK, alnK, zgt_u, zgt_a, Option.toList_some, Option.toList_none, List.cons_append, List.nil_append, List.map_cons, List.map_nil, List.replicate, ite_true, ite_false, if_true, if_false, List.getElem?_cons_zero, List.getElem?_cons_succ, List.set_cons_zero, List.set_cons_succ, true_and, and_true, beq_self_eq_true, zite, Int.toNat_natCast, if_pos, if_neg, zwr_id, zand, true_or, or_true]
      · have : dg c ≠ true := by rw [dg_p hp]; simp [h1]
        rw [zb_f this]
        simp (disch := omega) only [e_88, w_88_0, w_88_1, w_88_2, w_88_3, w_88_4, w_88_5, w_88_6, w_88_7, w_88_8, w_88_9, w_88_11, w_88_12, w_88_13, w_88_14, w_88_15, w_88_16, w_88_17, w_88_18, w_88_19, w_88_20, w_88_21, w_88_22, w_88_23, w_88_24, w_88_25, w_88_26, w_88_27, w_88_28, w_88_29, w_88_30, getK, putK, ialK, iasK, aalK, aasK, alnK, zgt_u, zgt_a, Option.toList_some, Option.toList_none, List.cons_append, List.nil_append, List.map_cons, List.map_nil, List.replicate, ite_true, ite_false, if_true, if_false, List.getElem?_cons_zero, List.getElem?_cons_succ, List.set_cons_zero, List.set_cons_succ, true_and, and_true, beq_self_eq_true, zite, Int.toNat_natCast, if_pos, if_neg, zwr_id, zand, true_or, or_true]
    · rw [w_88_10, zb_t (dg_0 (by omega))]
      simp (disch := omega) only [e_88, w_88_0, w_88_1, w_88_2, w_88_3, w_88_4, w_88_5, w_88_6, w_88_7, w_88_8, w_88_9, w_88_11, w_88_12, w_88_13, w_88_14, w_88_15, w_88_16, w_88_17, w_88_18, w_88_19, w_88_20, w_88_21, w_88_22, w_88_23, w_88_24, w_88_25, w_88_26, w_88_27, w_88_28, w_88_29, w_88_30, getK, putK, ialK, iasK, aalK, aasK, alnK, zgt_u, zgt_a, Option.toList_some, Option.toList_none, List.cons_append, List.nil_append, List.map_cons, List.map_nil, List.replicate, ite_true, ite_false, if_true, if_false, List.getElem?_cons_zero, List.getElem?_cons_succ, List.set_cons_zero, List.set_cons_succ, true_and, and_true, beq_self_eq_true, zite, Int.toNat_natCast, if_pos, if_neg, zwr_id, zand, true_or, or_true]
theorem s_isWord5 {c : Int} : zca sc 88 [.inl c] h Q = Q (some (.inl (zb (wd c)))) h := by
  by_cases h1 : 1 ≤ c
  · by_cases h2 : c ≤ 444444
    · simp (disch := omega) only [e_88, w_88_0, w_88_1, w_88_2, w_88_3, w_88_4, w_88_5, w_88_6, w_88_7, w_88_8, w_88_9, w_88_11, w_88_12, w_88_13, w_88_14, w_88_15, w_88_16, w_88_17, w_88_18, w_88_19, w_88_20, w_88_21, w_88_22, w_88_23, w_88_24, w_88_25, w_88_26, w_88_27, w_88_28, w_88_29, w_88_30, getK, putK, ialK, iasK, aalK, aasK, alnK, zgt_u, zgt_a, Option.toList_some, Option.toList_none, List.cons_append, List.nil_append, List.map_cons, List.map_nil, List.replicate, ite_true, ite_false, if_true, if_false, List.getElem?_cons_zero, List.getElem?_cons_succ, List.set_cons_zero, List.set_cons_succ, true_and, and_true, beq_self_eq_true, zite, Int.toNat_natCast, if_pos, if_neg, zwr_id, zand]
      rw [lp_isWord5 _ c.toNat c (Nat.le_refl _) (by omega)]
    · rw [zb_f (fun q => h2 q.2.1)]
      simp (disch := omega) only [e_88, w_88_0, w_88_1, w_88_2, w_88_3, w_88_4, w_88_5, w_88_6, w_88_7, w_88_8, w_88_9, w_88_11, w_88_12, w_88_13, w_88_14, w_88_15, w_88_16, w_88_17, w_88_18, w_88_19, w_88_20, w_88_21, w_88_22, w_88_23, w_88_24, w_88_25, w_88_26, w_88_27, w_88_28, w_88_29, w_88_30, getK, putK, ialK, iasK, aalK, aasK, alnK, zgt_u, zgt_a, Option.toList_some, Option.toList_none, List.cons_append, List.nil_append, List.map_cons, List.map_nil, List.replicate, ite_true, ite_false, if_true, if_false, List.getElem?_cons_zero, List.getElem?_cons_succ, List.set_cons_zero, List.set_cons_succ, true_and, and_true, beq_self_eq_true, zite, Int.toNat_natCast, if_pos, if_neg, zwr_id, zand, true_or, or_true]
  · rw [zb_f (fun q => h1 q.1)]
    simp (disch := omega) only [e_88, w_88_0, w_88_1, w_88_2, w_88_3, w_88_4, w_88_5, w_88_6, w_88_7, w_88_8, w_88_9, w_88_11, w_88_12, w_88_13, w_88_14, w_88_15, w_88_16, w_88_17, w_88_18, w_88_19, w_88_20, w_88_21, w_88_22, w_88_23, w_88_24, w_88_25, w_88_26, w_88_27, w_88_28, w_88_29, w_88_30, getK, putK, ialK, iasK, aalK, aasK, alnK, zgt_u, zgt_a, Option.toList_some, Option.toList_none, List.cons_append, List.nil_append, List.map_cons, List.map_nil, List.replicate, ite_true, ite_false, if_true, if_false, List.getElem?_cons_zero, List.getElem?_cons_succ, List.set_cons_zero, List.set_cons_succ, true_and, and_true, beq_self_eq_true, zite, Int.toNat_natCast, if_pos, if_neg, zwr_id, zand, true_or, or_true]
theorem lp_isWord6 (l0 : Option zV) : ∀ (k : Nat) (c : Int) (p : Prop) [Decidable p], c.toNat ≤ k → 0 ≤ c → zwp sc 96 11 [l0, some (.inl (zb p)), some (.inl c)] [] h Q = Q (some (.inl (zb (p ∧ dg c = true)))) h := by
  intro k
  induction k with
  | zero =>
    intro c p _ hc h0
    have : zb (p ∧ dg c = true) = zb p := zb_cg (by simp [dg_0 (show c ≤ 0 by omega)])
    have h01 := zb_01 p
    rw [w_96_11, this]
    simp (disch := omega) only [e_96, w_96_0, w_96_1, w_96_2, w_96_3, w_96_4, w_96_5, w_96_6, w_96_7, w_96_8, w_96_9, w_96_10, w_96_12, w_96_13, w_96_14, w_96_15, w_96_16, w_96_17, w_96_18, w_96_19, w_96_20, w_96_21, w_96_22, w_96_23, w_96_24, w_96_25, w_96_26, w_96_27, w_96_28, getK, putK, ialK, iasK, aalK, aasK, alnK, zgt_u, zgt_a, Option.toList_some, Option.toList_none, List.cons_append, List.nil_append, List.map_cons, List.map_nil, List.replicate, ite_true, ite_false, if_true, if_false, List.getElem?_cons_zero, List.getElem?_cons_succ, List.set_cons_zero, List.set_cons_succ, true_and, and_true, beq_self_eq_true, zite, Int.toNat_natCast, if_pos, if_neg, zwr_id, zand, h01]
  | succ k ih =>
    intro c p _ hc h0
    by_cases hp : 0 < c
    · rw [w_96_11]
      simp (disch := omega) only [e_96, w_96_0, w_96_1, w_96_2, w_96_3, w_96_4, w_96_5, w_96_6, w_96_7, w_96_8, w_96_9, w_96_10, w_96_12, w_96_13, w_96_14, w_96_15, w_96_16, w_96_17, w_96_18, w_96_19, w_96_20, w_96_21, w_96_22, w_96_23, w_96_24, w_96_25, w_96_26, w_96_27, w_96_28, getK, putK, ialK, iasK, aalK, aasK, alnK, zgt_u, zgt_a, Option.toList_some, Option.toList_none, List.cons_append, List.nil_append, List.map_cons, List.map_nil, List.replicate, ite_true, ite_false, if_true, if_false, List.getElem?_cons_zero, List.getElem?_cons_succ, List.set_cons_zero, List.set_cons_succ, true_and, and_true, beq_self_eq_true, zite, Int.toNat_natCast, if_pos, if_neg, zwr_id, zand, s_isIn, zb_and]
      rw [ih (c / 10) (p ∧ (1 ≤ c % 10 ∧ c % 10 ≤ 4)) (by omega) (by omega)]
      refine congrArg (fun z => Q (some (.inl z)) h) (zb_cg ?_)
      rw [dg_p hp]
      simp [and_assoc]
    · have : zb (p ∧ dg c = true) = zb p := zb_cg (by simp [dg_0 (show c ≤ 0 by omega)])
      have h01 := zb_01 p
      rw [w_96_11, this]
      simp (disch := omega) only [e_96, w_96_0, w_96_1, w_96_2, w_96_3, w_96_4, w_96_5, w_96_6, w_96_7, w_96_8, w_96_9, w_96_10, w_96_12, w_96_13, w_96_14, w_96_15, w_96_16, w_96_17, w_96_18, w_96_19, w_96_20, w_96_21, w_96_22, w_96_23, w_96_24, w_96_25, w_96_26, w_96_27, w_96_28, getK, putK, ialK, iasK, aalK, aasK, alnK, zgt_u, zgt_a, Option.toList_some, Option.toList_none, List.cons_append, List.nil_append, List.map_cons, List.map_nil, List.replicate, ite_true, ite_false, if_true, if_false, List.getElem?_cons_zero, List.getElem?_cons_succ, List.set_cons_zero, List.set_cons_succ, true_and, and_true, beq_self_eq_true, zite, Int.toNat_natCast, if_pos, if_neg, zwr_id, zand, h01]
theorem s_isWord6 {c : Int} : zca sc 96 [.inl c] h Q = Q (some (.inl (zb (wd c)))) h := by
  simp (disch := omega) only [e_96, w_96_0, w_96_1, w_96_2, w_96_3, w_96_4, w_96_5, w_96_6, w_96_7, w_96_8, w_96_9, w_96_10, w_96_12, w_96_13, w_96_14, w_96_15, w_96_16, w_96_17, w_96_18, w_96_19, w_96_20, w_96_21, w_96_22, w_96_23, w_96_24, w_96_25, w_96_26, w_96_27, w_96_28, getK, putK, ialK, iasK, aalK, aasK, alnK, zgt_u, zgt_a, Option.toList_some, Option.toList_none, List.cons_append, List.nil_append, List.map_cons, List.map_nil, List.replicate, ite_true, ite_false, if_true, if_false, List.getElem?_cons_zero, List.getElem?_cons_succ, List.set_cons_zero, List.set_cons_succ, true_and, and_true, beq_self_eq_true, zite, Int.toNat_natCast, if_pos, if_neg, zwr_id, zand, s_isIn]
  rw [lp_isWord6 _ 0 0 _ (Nat.le_refl _) (Int.le_refl _)]
  by_cases h1 : 1 ≤ c ∧ c ≤ 444444
  · rw [lp_isWord6 _ c.toNat c _ (Nat.le_refl _) (by omega), if_neg (by rw [zb_eq]; exact fun q => q h1)]
    exact congrArg (fun z => Q (some (.inl z)) h) (zb_cg (by simp [wd, and_assoc]))
  · rw [if_pos (by rw [zb_eq]; exact h1)]
    exact congrArg (fun z => Q (some (.inl z)) h) (zb_cg (by constructor; exact fun q => absurd q.1 h1; exact fun q => absurd ⟨q.1, q.2.1⟩ h1))
theorem s_isWeight5 {c : Int} : zca sc 86 [.inl c] h Q = Q (some (.inl (zb (-99 ≤ c ∧ c ≤ 99)))) h := by
  by_cases h1 : -99 ≤ c
  · by_cases h2 : c ≤ 99
    · rw [zb_t ⟨h1, h2⟩]
      simp (disch := omega) only [e_86, w_86_0, w_86_1, w_86_2, w_86_3, w_86_4, w_86_5, w_86_6, w_86_7, w_86_8, w_86_9, getK, putK, ialK, iasK, aalK, aasK, alnK, zgt_u, zgt_a, Option.toList_some, Option.toList_none, List.cons_append, List.nil_append, List.map_cons, List.map_nil, List.replicate, ite_true, ite_false, if_true, if_false, List.getElem?_cons_zero, List.getElem?_cons_succ, List.set_cons_zero, List.set_cons_succ, true_and, and_true, beq_self_eq_true, zite, Int.toNat_natCast, if_pos, if_neg, zwr_id, zand, true_or, or_true]
    · rw [zb_f (fun q => h2 q.2)]
      simp (disch := omega) only [e_86, w_86_0, w_86_1, w_86_2, w_86_3, w_86_4, w_86_5, w_86_6, w_86_7, w_86_8, w_86_9, getK, putK, ialK, iasK, aalK, aasK, alnK, zgt_u, zgt_a, Option.toList_some, Option.toList_none, List.cons_append, List.nil_append, List.map_cons, List.map_nil, List.replicate, ite_true, ite_false, if_true, if_false, List.getElem?_cons_zero, List.getElem?_cons_succ, List.set_cons_zero, List.set_cons_succ, true_and, and_true, beq_self_eq_true, zite, Int.toNat_natCast, if_pos, if_neg, zwr_id, zand, true_or, or_true]
  · rw [zb_f (fun q => h1 q.1)]
    simp (disch := omega) only [e_86, w_86_0, w_86_1, w_86_2, w_86_3, w_86_4, w_86_5, w_86_6, w_86_7, w_86_8, w_86_9, getK, putK, ialK, iasK, aalK, aasK, alnK, zgt_u, zgt_a, Option.toList_some, Option.toList_none, List.cons_append, List.nil_append, List.map_cons, List.map_nil, List.replicate, ite_true, ite_false, if_true, if_false, List.getElem?_cons_zero, List.getElem?_cons_succ, List.set_cons_zero, List.set_cons_succ, true_and, and_true, beq_self_eq_true, zite, Int.toNat_natCast, if_pos, if_neg, zwr_id, zand, true_or, or_true]
theorem s_isWeight6 {c : Int} : zca sc 115 [.inl c] h Q = Q (some (.inl (zb (-99 ≤ c ∧ c ≤ 99)))) h := by
  have h01 := zb_01 (-99 ≤ c ∧ c ≤ 99)
  simp (disch := omega) only [e_115, w_115_0, w_115_1, w_115_2, w_115_3, w_115_4, getK, putK, ialK, iasK, aalK, aasK, alnK, zgt_u, zgt_a, Option.toList_some, Option.toList_none, List.cons_append, List.nil_append, List.map_cons, List.map_nil, List.replicate, ite_true, ite_false, if_true, if_false, List.getElem?_cons_zero, List.getElem?_cons_succ, List.set_cons_zero, List.set_cons_succ, true_and, and_true, beq_self_eq_true, zite, Int.toNat_natCast, if_pos, if_neg, zwr_id, zand, s_isIn, h01]
theorem s_isImage {c : Int} : zca sc 151 [.inl c] h Q = Q (some (.inl (zb (0 ≤ c ∧ c ≤ 1)))) h := by
  have h01 := zb_01 (0 ≤ c ∧ c ≤ 1)
  simp (disch := omega) only [e_151, w_151_0, w_151_1, w_151_2, w_151_3, w_151_4, getK, putK, ialK, iasK, aalK, aasK, alnK, zgt_u, zgt_a, Option.toList_some, Option.toList_none, List.cons_append, List.nil_append, List.map_cons, List.map_nil, List.replicate, ite_true, ite_false, if_true, if_false, List.getElem?_cons_zero, List.getElem?_cons_succ, List.set_cons_zero, List.set_cons_succ, true_and, and_true, beq_self_eq_true, zite, Int.toNat_natCast, if_pos, if_neg, zwr_id, zand, s_isIn, h01]
theorem s_isGroup5 {f g : Int} : zca sc 87 [.inl f, .inl g] h Q = Q (some (.inl (zb ((0 ≤ f ∧ f ≤ 1) ∧ (0 ≤ g ∧ g ≤ 6))))) h := by
  by_cases h1 : 0 ≤ f
  · by_cases h2 : f ≤ 1
    · by_cases h3 : 0 ≤ g
      · by_cases h4 : g ≤ 6
        · rw [zb_t ⟨⟨h1, h2⟩, h3, h4⟩]
          simp (disch := omega) only [e_87, w_87_0, w_87_1, w_87_2, w_87_3, w_87_4, w_87_5, w_87_6, w_87_7, w_87_8, w_87_9, w_87_10, w_87_11, w_87_12, w_87_13, getK, putK, ialK, iasK, aalK, aasK, alnK, zgt_u, zgt_a, Option.toList_some, Option.toList_none, List.cons_append, List.nil_append, List.map_cons, List.map_nil, List.replicate, ite_true, ite_false, if_true, if_false, List.getElem?_cons_zero, List.getElem?_cons_succ, List.set_cons_zero, List.set_cons_succ, true_and, and_true, beq_self_eq_true, zite, Int.toNat_natCast, if_pos, if_neg, zwr_id, zand, true_or, or_true]
        · rw [zb_f (fun q => h4 q.2.2)]
          simp (disch := omega) only [e_87, w_87_0, w_87_1, w_87_2, w_87_3, w_87_4, w_87_5, w_87_6, w_87_7, w_87_8, w_87_9, w_87_10, w_87_11, w_87_12, w_87_13, getK, putK, ialK, iasK, aalK, aasK, alnK, zgt_u, zgt_a, Option.toList_some, Option.toList_none, List.cons_append, List.nil_append, List.map_cons, List.map_nil, List.replicate, ite_true, ite_false, if_true, if_false, List.getElem?_cons_zero, List.getElem?_cons_succ, List.set_cons_zero, List.set_cons_succ, true_and, and_true, beq_self_eq_true, zite, Int.toNat_natCast, if_pos, if_neg, zwr_id, zand, true_or, or_true]
      · rw [zb_f (fun q => h3 q.2.1)]
        simp (disch := omega) only [e_87, w_87_0, w_87_1, w_87_2, w_87_3, w_87_4, w_87_5, w_87_6, w_87_7, w_87_8, w_87_9, w_87_10, w_87_11, w_87_12, w_87_13, getK, putK, ialK, iasK, aalK, aasK, alnK, zgt_u, zgt_a, Option.toList_some, Option.toList_none, List.cons_append, List.nil_append, List.map_cons, List.map_nil, List.replicate, ite_true, ite_false, if_true, if_false, List.getElem?_cons_zero, List.getElem?_cons_succ, List.set_cons_zero, List.set_cons_succ, true_and, and_true, beq_self_eq_true, zite, Int.toNat_natCast, if_pos, if_neg, zwr_id, zand, true_or, or_true]
    · rw [zb_f (fun q => h2 q.1.2)]
      simp (disch := omega) only [e_87, w_87_0, w_87_1, w_87_2, w_87_3, w_87_4, w_87_5, w_87_6, w_87_7, w_87_8, w_87_9, w_87_10, w_87_11, w_87_12, w_87_13, getK, putK, ialK, iasK, aalK, aasK, alnK, zgt_u, zgt_a, Option.toList_some, Option.toList_none, List.cons_append, List.nil_append, List.map_cons, List.map_nil, List.replicate, ite_true, ite_false, if_true, if_false, List.getElem?_cons_zero, List.getElem?_cons_succ, List.set_cons_zero, List.set_cons_succ, true_and, and_true, beq_self_eq_true, zite, Int.toNat_natCast, if_pos, if_neg, zwr_id, zand, true_or, or_true]
  · rw [zb_f (fun q => h1 q.1.1)]
    simp (disch := omega) only [e_87, w_87_0, w_87_1, w_87_2, w_87_3, w_87_4, w_87_5, w_87_6, w_87_7, w_87_8, w_87_9, w_87_10, w_87_11, w_87_12, w_87_13, getK, putK, ialK, iasK, aalK, aasK, alnK, zgt_u, zgt_a, Option.toList_some, Option.toList_none, List.cons_append, List.nil_append, List.map_cons, List.map_nil, List.replicate, ite_true, ite_false, if_true, if_false, List.getElem?_cons_zero, List.getElem?_cons_succ, List.set_cons_zero, List.set_cons_succ, true_and, and_true, beq_self_eq_true, zite, Int.toNat_natCast, if_pos, if_neg, zwr_id, zand, true_or, or_true]
theorem s_isGroup6 {f g : Int} : zca sc 133 [.inl f, .inl g] h Q = Q (some (.inl (zb ((0 ≤ f ∧ f ≤ 1) ∧ (0 ≤ g ∧ g ≤ 6))))) h := by
  by_cases h1 : 0 ≤ f ∧ f ≤ 1
  · by_cases h2 : 0 ≤ g ∧ g ≤ 6
    · rw [zb_t ⟨h1, h2⟩]
      simp (disch := omega) only [e_133, w_133_0, w_133_1, w_133_2, w_133_3, w_133_4, w_133_5, w_133_6, w_133_7, w_133_8, w_133_9, w_133_10, w_133_11, w_133_12, w_133_13, getK, putK, ialK, iasK, aalK, aasK, alnK, zgt_u, zgt_a, Option.toList_some, Option.toList_none, List.cons_append, List.nil_append, List.map_cons, List.map_nil, List.replicate, ite_true, ite_false, if_true, if_false, List.getElem?_cons_zero, List.getElem?_cons_succ, List.set_cons_zero, List.set_cons_succ, true_and, and_true, beq_self_eq_true, zite, Int.toNat_natCast, if_pos, if_neg, zwr_id, zand, s_isIn, zb_ne, zb_eq, true_or, or_true]
    · rw [zb_f (fun q => h2 q.2)]
      simp (disch := omega) only [e_133, w_133_0, w_133_1, w_133_2, w_133_3, w_133_4, w_133_5, w_133_6, w_133_7, w_133_8, w_133_9, w_133_10, w_133_11, w_133_12, w_133_13, getK, putK, ialK, iasK, aalK, aasK, alnK, zgt_u, zgt_a, Option.toList_some, Option.toList_none, List.cons_append, List.nil_append, List.map_cons, List.map_nil, List.replicate, ite_true, ite_false, if_true, if_false, List.getElem?_cons_zero, List.getElem?_cons_succ, List.set_cons_zero, List.set_cons_succ, true_and, and_true, beq_self_eq_true, zite, Int.toNat_natCast, if_pos, if_neg, zwr_id, zand, s_isIn, zb_ne, zb_eq, true_or, or_true]
  · rw [zb_f (fun q => h1 q.1)]
    simp (disch := omega) only [e_133, w_133_0, w_133_1, w_133_2, w_133_3, w_133_4, w_133_5, w_133_6, w_133_7, w_133_8, w_133_9, w_133_10, w_133_11, w_133_12, w_133_13, getK, putK, ialK, iasK, aalK, aasK, alnK, zgt_u, zgt_a, Option.toList_some, Option.toList_none, List.cons_append, List.nil_append, List.map_cons, List.map_nil, List.replicate, ite_true, ite_false, if_true, if_false, List.getElem?_cons_zero, List.getElem?_cons_succ, List.set_cons_zero, List.set_cons_succ, true_and, and_true, beq_self_eq_true, zite, Int.toNat_natCast, if_pos, if_neg, zwr_id, zand, s_isIn, zb_ne, zb_eq, true_or, or_true]
end
