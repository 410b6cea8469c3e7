/-! SMALL METHODS OF NUMBERS ALONE -/
theorem zb_and (p q : Prop) [Decidable p] [Decidable q] : (Int32.ofInt (zb p) &&& Int32.ofInt (zb q)).toInt = zb (p ∧ q) := by
  by_cases h1 : p <;> by_cases h2 : q <;> simp only [zb, h1, h2, if_true, if_false, and_self, and_true, true_and, false_and, and_false] <;> decide
theorem zb_01 (p : Prop) [Decidable p] : zb p = 0 ∨ zb p = 1 := by by_cases h : p <;> simp [zb, h]
theorem zb_ne (p : Prop) [Decidable p] : (zb p ≠ 0) = p := by by_cases h : p <;> simp [zb, h]
theorem zb_eq (p : Prop) [Decidable p] : (zb p = 0) = ¬ p := by by_cases h : p <;> simp [zb, h]
theorem zb_if {p : Prop} [Decidable p] {α : Type} {f : Int → α} : f (zb p) = if p then f 1 else f 0 := by by_cases h : p <;> simp [zb, h]
theorem zb_cg {p q : Prop} [Decidable p] [Decidable q] (h : p ↔ q) : zb p = zb q := by simp only [zb, h]
section
variable {sc : Nat × (Int → Int)} {h : zH} {Q : Option zV → zH → Prop}
/-- the first n letters of a code -/
def bg (c n : Int) : Int := c / tp (nd c - n).toNat
theorem lp_isWord5 (l0 : Option zV) : ∀ (k : Nat) (c : Int), c.toNat ≤ k → 0 ≤ c → zwp sc 85 10 [l0, some (.inl c)] [] h Q = Q (some (.inl (zb (dg c = true)))) h := by
  intro k
  induction k with
  | zero =>
    intro c hc h0
    rw [w_85_10, zb_t (dg_0 (by omega))]
    simp (disch := omega) only [e_85, w_85_0, w_85_1, w_85_2, w_85_3, w_85_4, w_85_5, w_85_6, w_85_7, w_85_8, w_85_9, w_85_11, w_85_12, w_85_13, w_85_14, w_85_15, w_85_16, w_85_17, w_85_18, w_85_19, w_85_20, w_85_21, w_85_22, w_85_23, w_85_24, w_85_25, w_85_26, w_85_27, w_85_28, w_85_29, w_85_30, getK, putK, ialK, iasK, aalK, aasK, alnK, zgt_u, zgt_a, Option.toList_some, Option.toList_none, List.cons_append, List.nil_append, List.map_cons, List.map_nil, List.replicate, ite_true, ite_false, if_true, if_false, List.getElem?_cons_zero, List.getElem?_cons_succ, List.set_cons_zero, List.set_cons_succ, true_and, and_true, beq_self_eq_true, zite, Int.toNat_natCast, if_pos, if_neg, zwr_id, zand, true_or, or_true]
  | succ k ih =>
    intro c hc h0
    by_cases hp : 0 < c
    · rw [w_85_10]
      by_cases h1 : 1 ≤ c % 10
      · by_cases h2 : c % 10 ≤ 4
        · simp (disch := omega) only [e_85, w_85_0, w_85_1, w_85_2, w_85_3, w_85_4, w_85_5, w_85_6, w_85_7, w_85_8, w_85_9, w_85_11, w_85_12, w_85_13, w_85_14, w_85_15, w_85_16, w_85_17, w_85_18, w_85_19, w_85_20, w_85_21, w_85_22, w_85_23, w_85_24, w_85_25, w_85_26, w_85_27, w_85_28, w_85_29, w_85_30, getK, putK, ialK, iasK, aalK, aasK, alnK, zgt_u, zgt_a, Option.toList_some, Option.toList_none, List.cons_append, List.nil_append, List.map_cons, List.map_nil, List.replicate, ite_true, ite_false, if_true, if_false, List.getElem?_cons_zero, List.getElem?_cons_succ, List.set_cons_zero, List.set_cons_succ, true_and, and_true, beq_self_eq_true, zite, Int.toNat_natCast, if_pos, if_neg, zwr_id, zand, true_or, or_true, ih]
          refine congrArg (fun z => Q (some (.inl z)) h) (zb_cg ?_)
          rw [dg_p hp]
          simp [h1, h2]
        · have : dg c ≠ true := by rw [dg_p hp]; simp [h2]
          rw [zb_f this]
          simp (disch := omega) only [e_85, w_85_0, w_85_1, w_85_2, w_85_3, w_85_4, w_85_5, w_85_6, w_85_7, w_85_8, w_85_9, w_85_11, w_85_12, w_85_13, w_85_14, w_85_15, w_85_16, w_85_17, w_85_18, w_85_19, w_85_20, w_85_21, w_85_22, w_85_23, w_85_24, w_85_25, w_85_26, w_85_27, w_85_28, w_85_29, w_85_30, getK, putK, ialK, iasK, aalK, aasK, alnK, zgt_u, zgt_a, Option.toList_some, Option.toList_none, List.cons_append, List.nil_append, List.map_cons, List.map_nil, List.replicate, ite_true, ite_false, if_true, if_false, List.getElem?_cons_zero, List.getElem?_cons_succ, List.set_cons_zero, List.set_cons_succ, true_and, and_true, beq_self_eq_true, zite, Int.toNat_natCast, if_pos, if_neg, zwr_id, zand, true_or, or_true]
      · have : dg c ≠ true := by rw [dg_p hp]; simp [h1]
        rw [zb_f this]
        simp (disch := omega) only [e_85, w_85_0, w_85_1, w_85_2, w_85_3, w_85_4, w_85_5, w_85_6, w_85_7, w_85_8, w_85_9, w_85_11, w_85_12, w_85_13, w_85_14, w_85_15, w_85_16, w_85_17, w_85_18, w_85_19, w_85_20, w_85_21, w_85_22, w_85_23, w_85_24, w_85_25, w_85_26, w_85_27, w_85_28, w_85_29, w_85_30, getK, putK, ialK, iasK, aalK, aasK, alnK, zgt_u, zgt_a, Option.toList_some, Option.toList_none, List.cons_append, List.nil_append, List.map_cons, List.map_nil, List.replicate, ite_true, ite_false, if_true, if_false, List.getElem?_cons_zero, List.getElem?_cons_succ, List.set_cons_zero, List.set_cons_succ, true_and, and_true, beq_self_eq_true, zite, Int.toNat_natCast, if_pos, if_neg, zwr_id, zand, true_or, or_true]
    · rw [w_85_10, zb_t (dg_0 (by omega))]
      simp (disch := omega) only [e_85, w_85_0, w_85_1, w_85_2, w_85_3, w_85_4, w_85_5, w_85_6, w_85_7, w_85_8, w_85_9, w_85_11, w_85_12, w_85_13, w_85_14, w_85_15, w_85_16, w_85_17, w_85_18, w_85_19, w_85_20, w_85_21, w_85_22, w_85_23, w_85_24, w_85_25, w_85_26, w_85_27, w_85_28, w_85_29, w_85_30, getK, putK, ialK, iasK, aalK, aasK, alnK, zgt_u, zgt_a, Option.toList_some, Option.toList_none, List.cons_append, List.nil_append, List.map_cons, List.map_nil, List.replicate, ite_true, ite_false, if_true, if_false, List.getElem?_cons_zero, List.getElem?_cons_succ, List.set_cons_zero, List.set_cons_succ, true_and, and_true, beq_self_eq_true, zite, Int.toNat_natCast, if_pos, if_neg, zwr_id, zand, true_or, or_true]
theorem s_isWord5 {c : Int} : zca sc 85 [.inl c] h Q = Q (some (.inl (zb (wd c)))) h := by
  by_cases h1 : 1 ≤ c
  · by_cases h2 : c ≤ 444444
    · simp (disch := omega) only [e_85, w_85_0, w_85_1, w_85_2, w_85_3, w_85_4, w_85_5, w_85_6, w_85_7, w_85_8, w_85_9, w_85_11, w_85_12, w_85_13, w_85_14, w_85_15, w_85_16, w_85_17, w_85_18, w_85_19, w_85_20, w_85_21, w_85_22, w_85_23, w_85_24, w_85_25, w_85_26, w_85_27, w_85_28, w_85_29, w_85_30, getK, putK, ialK, iasK, aalK, aasK, alnK, zgt_u, zgt_a, Option.toList_some, Option.toList_none, List.cons_append, List.nil_append, List.map_cons, List.map_nil, List.replicate, ite_true, ite_false, if_true, if_false, List.getElem?_cons_zero, List.getElem?_cons_succ, List.set_cons_zero, List.set_cons_succ, true_and, and_true, beq_self_eq_true, zite, Int.toNat_natCast, if_pos, if_neg, zwr_id, zand]
      rw [lp_isWord5 _ c.toNat c (Nat.le_refl _) (by omega)]
    · rw [zb_f (fun q => h2 q.2.1)]
      simp (disch := omega) only [e_85, w_85_0, w_85_1, w_85_2, w_85_3, w_85_4, w_85_5, w_85_6, w_85_7, w_85_8, w_85_9, w_85_11, w_85_12, w_85_13, w_85_14, w_85_15, w_85_16, w_85_17, w_85_18, w_85_19, w_85_20, w_85_21, w_85_22, w_85_23, w_85_24, w_85_25, w_85_26, w_85_27, w_85_28, w_85_29, w_85_30, getK, putK, ialK, iasK, aalK, aasK, alnK, zgt_u, zgt_a, Option.toList_some, Option.toList_none, List.cons_append, List.nil_append, List.map_cons, List.map_nil, List.replicate, ite_true, ite_false, if_true, if_false, List.getElem?_cons_zero, List.getElem?_cons_succ, List.set_cons_zero, List.set_cons_succ, true_and, and_true, beq_self_eq_true, zite, Int.toNat_natCast, if_pos, if_neg, zwr_id, zand, true_or, or_true]
  · rw [zb_f (fun q => h1 q.1)]
    simp (disch := omega) only [e_85, w_85_0, w_85_1, w_85_2, w_85_3, w_85_4, w_85_5, w_85_6, w_85_7, w_85_8, w_85_9, w_85_11, w_85_12, w_85_13, w_85_14, w_85_15, w_85_16, w_85_17, w_85_18, w_85_19, w_85_20, w_85_21, w_85_22, w_85_23, w_85_24, w_85_25, w_85_26, w_85_27, w_85_28, w_85_29, w_85_30, getK, putK, ialK, iasK, aalK, aasK, alnK, zgt_u, zgt_a, Option.toList_some, Option.toList_none, List.cons_append, List.nil_append, List.map_cons, List.map_nil, List.replicate, ite_true, ite_false, if_true, if_false, List.getElem?_cons_zero, List.getElem?_cons_succ, List.set_cons_zero, List.set_cons_succ, true_and, and_true, beq_self_eq_true, zite, Int.toNat_natCast, if_pos, if_neg, zwr_id, zand, true_or, or_true]
theorem s_isWeight5 {c : Int} : zca sc 83 [.inl c] h Q = Q (some (.inl (zb (-99 ≤ c ∧ c ≤ 99)))) h := by
  by_cases h1 : -99 ≤ c
  · by_cases h2 : c ≤ 99
    · rw [zb_t ⟨h1, h2⟩]
      simp (disch := omega) only [e_83, w_83_0, w_83_1, w_83_2, w_83_3, w_83_4, w_83_5, w_83_6, w_83_7, w_83_8, w_83_9, getK, putK, ialK, iasK, aalK, aasK, alnK, zgt_u, zgt_a, Option.toList_some, Option.toList_none, List.cons_append, List.nil_append, List.map_cons, List.map_nil, List.replicate, ite_true, ite_false, if_true, if_false, List.getElem?_cons_zero, List.getElem?_cons_succ, List.set_cons_zero, List.set_cons_succ, true_and, and_true, beq_self_eq_true, zite, Int.toNat_natCast, if_pos, if_neg, zwr_id, zand, true_or, or_true]
    · rw [zb_f (fun q => h2 q.2)]
      simp (disch := omega) only [e_83, w_83_0, w_83_1, w_83_2, w_83_3, w_83_4, w_83_5, w_83_6, w_83_7, w_83_8, w_83_9, getK, putK, ialK, iasK, aalK, aasK, alnK, zgt_u, zgt_a, Option.toList_some, Option.toList_none, List.cons_append, List.nil_append, List.map_cons, List.map_nil, List.replicate, ite_true, ite_false, if_true, if_false, List.getElem?_cons_zero, List.getElem?_cons_succ, List.set_cons_zero, List.set_cons_succ, true_and, and_true, beq_self_eq_true, zite, Int.toNat_natCast, if_pos, if_neg, zwr_id, zand, true_or, or_true]
  · rw [zb_f (fun q => h1 q.1)]
    simp (disch := omega) only [e_83, w_83_0, w_83_1, w_83_2, w_83_3, w_83_4, w_83_5, w_83_6, w_83_7, w_83_8, w_83_9, getK, putK, ialK, iasK, aalK, aasK, alnK, zgt_u, zgt_a, Option.toList_some, Option.toList_none, List.cons_append, List.nil_append, List.map_cons, List.map_nil, List.replicate, ite_true, ite_false, if_true, if_false, List.getElem?_cons_zero, List.getElem?_cons_succ, List.set_cons_zero, List.set_cons_succ, true_and, and_true, beq_self_eq_true, zite, Int.toNat_natCast, if_pos, if_neg, zwr_id, zand, true_or, or_true]
theorem s_isGroup5 {f g : Int} : zca sc 84 [.inl f, .inl g] h Q = Q (some (.inl (zb ((0 ≤ f ∧ f ≤ 1) ∧ (0 ≤ g ∧ g ≤ 6))))) h := by
  by_cases h1 : 0 ≤ f
  · by_cases h2 : f ≤ 1
    · by_cases h3 : 0 ≤ g
      · by_cases h4 : g ≤ 6
        · rw [zb_t ⟨⟨h1, h2⟩, h3, h4⟩]
          simp (disch := omega) only [e_84, w_84_0, w_84_1, w_84_2, w_84_3, w_84_4, w_84_5, w_84_6, w_84_7, w_84_8, w_84_9, w_84_10, w_84_11, w_84_12, w_84_13, getK, putK, ialK, iasK, aalK, aasK, alnK, zgt_u, zgt_a, Option.toList_some, Option.toList_none, List.cons_append, List.nil_append, List.map_cons, List.map_nil, List.replicate, ite_true, ite_false, if_true, if_false, List.getElem?_cons_zero, List.getElem?_cons_succ, List.set_cons_zero, List.set_cons_succ, true_and, and_true, beq_self_eq_true, zite, Int.toNat_natCast, if_pos, if_neg, zwr_id, zand, true_or, or_true]
        · rw [zb_f (fun q => h4 q.2.2)]
          simp (disch := omega) only [e_84, w_84_0, w_84_1, w_84_2, w_84_3, w_84_4, w_84_5, w_84_6, w_84_7, w_84_8, w_84_9, w_84_10, w_84_11, w_84_12, w_84_13, getK, putK, ialK, iasK, aalK, aasK, alnK, zgt_u, zgt_a, Option.toList_some, Option.toList_none, List.cons_append, List.nil_append, List.map_cons, List.map_nil, List.replicate, ite_true, ite_false, if_true, if_false, List.getElem?_cons_zero, List.getElem?_cons_succ, List.set_cons_zero, List.set_cons_succ, true_and, and_true, beq_self_eq_true, zite, Int.toNat_natCast, if_pos, if_neg, zwr_id, zand, true_or, or_true]
      · rw [zb_f (fun q => h3 q.2.1)]
        simp (disch := omega) only [e_84, w_84_0, w_84_1, w_84_2, w_84_3, w_84_4, w_84_5, w_84_6, w_84_7, w_84_8, w_84_9, w_84_10, w_84_11, w_84_12, w_84_13, getK, putK, ialK, iasK, aalK, aasK, alnK, zgt_u, zgt_a, Option.toList_some, Option.toList_none, List.cons_append, List.nil_append, List.map_cons, List.map_nil, List.replicate, ite_true, ite_false, if_true, if_false, List.getElem?_cons_zero, List.getElem?_cons_succ, List.set_cons_zero, List.set_cons_succ, true_and, and_true, beq_self_eq_true, zite, Int.toNat_natCast, if_pos, if_neg, zwr_id, zand, true_or, or_true]
    · rw [zb_f (fun q => h2 q.1.2)]
      simp (disch := omega) only [e_84, w_84_0, w_84_1, w_84_2, w_84_3, w_84_4, w_84_5, w_84_6, w_84_7, w_84_8, w_84_9, w_84_10, w_84_11, w_84_12, w_84_13, getK, putK, ialK, iasK, aalK, aasK, alnK, zgt_u, zgt_a, Option.toList_some, Option.toList_none, List.cons_append, List.nil_append, List.map_cons, List.map_nil, List.replicate, ite_true, ite_false, if_true, if_false, List.getElem?_cons_zero, List.getElem?_cons_succ, List.set_cons_zero, List.set_cons_succ, true_and, and_true, beq_self_eq_true, zite, Int.toNat_natCast, if_pos, if_neg, zwr_id, zand, true_or, or_true]
  · rw [zb_f (fun q => h1 q.1.1)]
    simp (disch := omega) only [e_84, w_84_0, w_84_1, w_84_2, w_84_3, w_84_4, w_84_5, w_84_6, w_84_7, w_84_8, w_84_9, w_84_10, w_84_11, w_84_12, w_84_13, getK, putK, ialK, iasK, aalK, aasK, alnK, zgt_u, zgt_a, Option.toList_some, Option.toList_none, List.cons_append, List.nil_append, List.map_cons, List.map_nil, List.replicate, ite_true, ite_false, if_true, if_false, List.getElem?_cons_zero, List.getElem?_cons_succ, List.set_cons_zero, List.set_cons_succ, true_and, and_true, beq_self_eq_true, zite, Int.toNat_natCast, if_pos, if_neg, zwr_id, zand, true_or, or_true]
end
