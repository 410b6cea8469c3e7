/-! THE LAW'S SMALL METHODS -/
def anF (x : Int) : Int := (Int32.ofInt x &&& Int32.ofInt 2147483647).toInt
theorem anF_nn (x : Int) : 0 ≤ anF x := by
  have h : (Int32.ofInt x &&& Int32.ofInt 2147483647).toBitVec.msb = false := by
    rw [Int32.toBitVec_and, BitVec.msb_and]
    have : (Int32.ofInt 2147483647).toBitVec.msb = false := by decide
    rw [this, Bool.and_false]
  show 0 ≤ (Int32.ofInt x &&& Int32.ofInt 2147483647).toBitVec.toInt
  rw [BitVec.toInt_eq_toNat_of_msb h]
  exact Int.natCast_nonneg _
def lowF (x n : Int) : Int := anF x % n
theorem lowF_b {x n : Int} (hn : 0 < n) : 0 ≤ lowF x n ∧ lowF x n < n := ⟨Int.emod_nonneg _ (by omega), Int.emod_lt_of_pos _ hn⟩
section
variable {sc : Nat × (Int → Int)} {h : zH} {Q : Option zV → zH → Prop}
theorem l_low {x n : Int} (hn : 0 < n) : zca sc 88 [.inl x, .inl n] h Q = Q (some (.inl (lowF x n))) h := by
  have h1 : 0 ≤ (Int32.ofInt x &&& Int32.ofInt 2147483647).toInt := anF_nn x
  simp (disch := omega) only [e_88, w_88_0, w_88_1, w_88_2, w_88_3, w_88_4, w_88_5, getK, putK, ialK, iasK, aalK, aasK, alnK, zgt_u, zgt_a, Option.toList_some, Option.toList_none, List.cons_append, List.nil_append, List.map_cons, List.map_nil, List.replicate, ite_true, ite_false, if_true, if_false, List.getElem?_cons_zero, List.getElem?_cons_succ, List.set_cons_zero, List.set_cons_succ, true_and, and_true, beq_self_eq_true, zite, Int.toNat_natCast, if_pos, if_neg, zwr_id, zand]
  rfl
def cellF (sc : Nat × (Int → Int)) (k : Int) : Int := if k < sc.1 then sc.2 k else zwr (747796405 * zwr (k + 1))
theorem l_cell {k : Int} (hk : 0 ≤ k) : zca sc 87 [.inr (.inr (.inr (.inr ()))), .inl k] h Q = Q (some (.inl (cellF sc k))) h := by
  unfold cellF
  by_cases h1 : k < sc.1
  · simp (disch := omega) only [e_87, w_87_0, w_87_1, w_87_2, w_87_3, w_87_4, w_87_5, w_87_6, w_87_7, w_87_8, w_87_9, w_87_10, w_87_11, w_87_12, w_87_13, getK, putK, ialK, iasK, aalK, aasK, alnK, zgt_u, zgt_a, Option.toList_some, Option.toList_none, List.cons_append, List.nil_append, List.map_cons, List.map_nil, List.replicate, ite_true, ite_false, if_true, if_false, List.getElem?_cons_zero, List.getElem?_cons_succ, List.set_cons_zero, List.set_cons_succ, true_and, and_true, beq_self_eq_true, zite, Int.toNat_natCast, if_pos, if_neg, zwr_id, zand]
  · simp (disch := omega) only [e_87, w_87_0, w_87_1, w_87_2, w_87_3, w_87_4, w_87_5, w_87_6, w_87_7, w_87_8, w_87_9, w_87_10, w_87_11, w_87_12, w_87_13, getK, putK, ialK, iasK, aalK, aasK, alnK, zgt_u, zgt_a, Option.toList_some, Option.toList_none, List.cons_append, List.nil_append, List.map_cons, List.map_nil, List.replicate, ite_true, ite_false, if_true, if_false, List.getElem?_cons_zero, List.getElem?_cons_succ, List.set_cons_zero, List.set_cons_succ, true_and, and_true, beq_self_eq_true, zite, Int.toNat_natCast, if_pos, if_neg, zwr_id, zand]
theorem lp_size (l0 : Option zV) : ∀ (k : Nat) (c n : Int), c.toNat ≤ k → 0 ≤ n → n + nd c ≤ 1000 → zwp sc 92 4 [l0, some (.inl n), some (.inl c)] [] h Q = Q (some (.inl (n + nd c))) h := by
  intro k
  induction k with
  | zero =>
    intro c n hk h0 hn
    rw [nd_0 (by omega), w_92_4]
    simp (disch := omega) only [e_92, w_92_0, w_92_1, w_92_2, w_92_3, w_92_5, w_92_6, w_92_7, w_92_8, w_92_9, w_92_10, w_92_11, w_92_12, w_92_13, w_92_14, w_92_15, w_92_16, getK, putK, ialK, iasK, aalK, aasK, alnK, zgt_u, zgt_a, Option.toList_some, Option.toList_none, List.cons_append, List.nil_append, List.map_cons, List.map_nil, List.replicate, ite_true, ite_false, if_true, if_false, List.getElem?_cons_zero, List.getElem?_cons_succ, List.set_cons_zero, List.set_cons_succ, true_and, and_true, beq_self_eq_true, zite, Int.toNat_natCast, if_pos, if_neg, zwr_id, zand, Int.add_zero]
  | succ k ih =>
    intro c n hk h0 hn
    by_cases hp : 0 < c
    · rw [w_92_4]
      rw [nd_p hp] at hn ⊢
      have := nd_nn (c / 10)
      simp (disch := omega) only [e_92, w_92_0, w_92_1, w_92_2, w_92_3, w_92_5, w_92_6, w_92_7, w_92_8, w_92_9, w_92_10, w_92_11, w_92_12, w_92_13, w_92_14, w_92_15, w_92_16, getK, putK, ialK, iasK, aalK, aasK, alnK, zgt_u, zgt_a, Option.toList_some, Option.toList_none, List.cons_append, List.nil_append, List.map_cons, List.map_nil, List.replicate, ite_true, ite_false, if_true, if_false, List.getElem?_cons_zero, List.getElem?_cons_succ, List.set_cons_zero, List.set_cons_succ, true_and, and_true, beq_self_eq_true, zite, Int.toNat_natCast, if_pos, if_neg, zwr_id, zand, ih]
      rw [show n + 1 + nd (c / 10) = n + (nd (c / 10) + 1) by omega]
    · rw [nd_0 (by omega), w_92_4]
      simp (disch := omega) only [e_92, w_92_0, w_92_1, w_92_2, w_92_3, w_92_5, w_92_6, w_92_7, w_92_8, w_92_9, w_92_10, w_92_11, w_92_12, w_92_13, w_92_14, w_92_15, w_92_16, getK, putK, ialK, iasK, aalK, aasK, alnK, zgt_u, zgt_a, Option.toList_some, Option.toList_none, List.cons_append, List.nil_append, List.map_cons, List.map_nil, List.replicate, ite_true, ite_false, if_true, if_false, List.getElem?_cons_zero, List.getElem?_cons_succ, List.set_cons_zero, List.set_cons_succ, true_and, and_true, beq_self_eq_true, zite, Int.toNat_natCast, if_pos, if_neg, zwr_id, zand, Int.add_zero]
theorem l_size {c : Int} (hc : c ≤ 2147483647) : zca sc 92 [.inl c] h Q = Q (some (.inl (nd c))) h := by
  have := nd_10 hc
  simp (disch := omega) only [e_92, w_92_0, w_92_1, w_92_2, w_92_3, w_92_5, w_92_6, w_92_7, w_92_8, w_92_9, w_92_10, w_92_11, w_92_12, w_92_13, w_92_14, w_92_15, w_92_16, getK, putK, ialK, iasK, aalK, aasK, alnK, zgt_u, zgt_a, Option.toList_some, Option.toList_none, List.cons_append, List.nil_append, List.map_cons, List.map_nil, List.replicate, ite_true, ite_false, if_true, if_false, List.getElem?_cons_zero, List.getElem?_cons_succ, List.set_cons_zero, List.set_cons_succ, true_and, and_true, beq_self_eq_true, zite, Int.toNat_natCast, if_pos, if_neg, zwr_id, zand]
  rw [lp_size _ c.toNat c 0 (Nat.le_refl _) (Int.le_refl _) (by omega), Int.zero_add]
end
/-- the code that the law spells -/
def spF (v : Int) : Nat → Int → Int → Int
  | 0, _, code => code
  | j + 1, k, code => spF v j (k + 1) (zwr (zwr (zwr (10 * code) + 1) + lowF (Int32.ofInt v >>> (Int32.ofInt (2 + 2 * k) &&& 31)).toInt (if lowF (Int32.ofInt v >>> (Int32.ofInt 12 &&& 31)).toInt 3 = 0 then 4 else 2)))
def spC (v : Int) : Int := spF v (1 + lowF v 4).toNat 0 0
section
variable {sc : Nat × (Int → Int)} {b1 b2 : Nat} {H : zH} {z z2 : zS} {c c2 : Nat} {Q : Option zV → zH → Prop}
theorem lp_spell {v : Int} (hP : PP b1 b2 H z z2 c c2) : ∀ (j : Nat) (k code : Int), k + j = 1 + lowF v 4 → 0 ≤ k → (∀ H', PP b1 b2 H' (spS z (spF v j k code)).2 z2 (c + 1) c2 → Q (some (.inl (spS z (spF v j k code)).1)) H') → zwp sc 89 10 [some (.inr (.inl (some b1))), some (.inl v), some (.inl (1 + lowF v 4)), some (.inl code), some (.inl k)] [] H Q := by
  have hb := lowF_b (x := v) (n := 4) (by omega)
  intro j
  induction j with
  | zero =>
    intro k code hk h0 hQ
    rw [w_89_10]
    unfold spF at hQ
    simp (disch := omega) only [e_89, w_89_0, w_89_1, w_89_2, w_89_3, w_89_4, w_89_5, w_89_6, w_89_7, w_89_8, w_89_9, w_89_11, w_89_12, w_89_13, w_89_14, w_89_15, w_89_16, w_89_17, w_89_18, w_89_19, w_89_20, w_89_21, w_89_22, w_89_23, w_89_24, w_89_25, w_89_26, w_89_27, w_89_28, w_89_29, w_89_30, w_89_31, w_89_32, w_89_33, w_89_34, w_89_35, w_89_36, w_89_37, w_89_38, w_89_39, w_89_40, w_89_41, w_89_42, getK, putK, ialK, iasK, aalK, aasK, alnK, zgt_u, zgt_a, Option.toList_some, Option.toList_none, List.cons_append, List.nil_append, List.map_cons, List.map_nil, List.replicate, ite_true, ite_false, if_true, if_false, List.getElem?_cons_zero, List.getElem?_cons_succ, List.set_cons_zero, List.set_cons_succ, true_and, and_true, beq_self_eq_true, zite, Int.toNat_natCast, if_pos, if_neg, zwr_id, zand, p_rc hP]
    obtain ⟨H', a1, a2⟩ := p_spell (sc := sc) (x := code) hP
    rw [a2]
    simp (disch := omega) only [e_89, w_89_0, w_89_1, w_89_2, w_89_3, w_89_4, w_89_5, w_89_6, w_89_7, w_89_8, w_89_9, w_89_11, w_89_12, w_89_13, w_89_14, w_89_15, w_89_16, w_89_17, w_89_18, w_89_19, w_89_20, w_89_21, w_89_22, w_89_23, w_89_24, w_89_25, w_89_26, w_89_27, w_89_28, w_89_29, w_89_30, w_89_31, w_89_32, w_89_33, w_89_34, w_89_35, w_89_36, w_89_37, w_89_38, w_89_39, w_89_40, w_89_41, w_89_42, getK, putK, ialK, iasK, aalK, aasK, alnK, zgt_u, zgt_a, Option.toList_some, Option.toList_none, List.cons_append, List.nil_append, List.map_cons, List.map_nil, List.replicate, ite_true, ite_false, if_true, if_false, List.getElem?_cons_zero, List.getElem?_cons_succ, List.set_cons_zero, List.set_cons_succ, true_and, and_true, beq_self_eq_true, zite, Int.toNat_natCast, if_pos, if_neg, zwr_id, zand]
    exact hQ H' a1
  | succ j ih =>
    intro k code hk h0 hQ
    have hz := zwr_id (z := k + 1) (by omega)
    unfold spF at hQ
    rw [w_89_10]
    by_cases h3 : lowF (Int32.ofInt v >>> (Int32.ofInt 12 &&& 31)).toInt 3 = 0
    · rw [if_pos h3] at hQ
      simp (disch := omega) only [e_89, w_89_11, w_89_12, w_89_13, w_89_14, w_89_15, w_89_16, w_89_17, w_89_18, w_89_19, w_89_20, w_89_21, w_89_22, w_89_23, w_89_24, w_89_25, w_89_26, w_89_27, w_89_28, w_89_29, w_89_30, w_89_31, w_89_32, w_89_33, w_89_34, w_89_35, w_89_36, w_89_37, w_89_38, getK, putK, ialK, iasK, aalK, aasK, alnK, zgt_u, zgt_a, Option.toList_some, Option.toList_none, List.cons_append, List.nil_append, List.map_cons, List.map_nil, List.replicate, ite_true, ite_false, if_true, if_false, List.getElem?_cons_zero, List.getElem?_cons_succ, List.set_cons_zero, List.set_cons_succ, true_and, and_true, beq_self_eq_true, zite, Int.toNat_natCast, if_pos, if_neg, zwr_id, zand, l_low]
      exact ih (k + 1) _ (by omega) (by omega) hQ
    · rw [if_neg h3] at hQ
      simp (disch := omega) only [e_89, w_89_11, w_89_12, w_89_13, w_89_14, w_89_15, w_89_16, w_89_17, w_89_18, w_89_19, w_89_20, w_89_21, w_89_22, w_89_23, w_89_24, w_89_25, w_89_26, w_89_27, w_89_28, w_89_29, w_89_30, w_89_31, w_89_32, w_89_33, w_89_34, w_89_35, w_89_36, w_89_37, w_89_38, getK, putK, ialK, iasK, aalK, aasK, alnK, zgt_u, zgt_a, Option.toList_some, Option.toList_none, List.cons_append, List.nil_append, List.map_cons, List.map_nil, List.replicate, ite_true, ite_false, if_true, if_false, List.getElem?_cons_zero, List.getElem?_cons_succ, List.set_cons_zero, List.set_cons_succ, true_and, and_true, beq_self_eq_true, zite, Int.toNat_natCast, if_pos, if_neg, zwr_id, zand, l_low]
      exact ih (k + 1) _ (by omega) (by omega) hQ
theorem l_spell {v : Int} (hP : PP b1 b2 H z z2 c c2) : ∃ H', PP b1 b2 H' (spS z (spC v)).2 z2 (c + 1) c2 ∧ ∀ Q, zca sc 89 [.inr (.inl (some b1)), .inl v] H Q = Q (some (.inl (spS z (spC v)).1)) H' := by
  have hb := lowF_b (x := v) (n := 4) (by omega)
  have key : ∃ H', PP b1 b2 H' (spS z (spC v)).2 z2 (c + 1) c2 ∧ zca sc 89 [.inr (.inl (some b1)), .inl v] H (fun r h => r = some (.inl (spS z (spC v)).1) ∧ h = H') := by
    have hw : zca sc 89 [.inr (.inl (some b1)), .inl v] H (fun r h => r = some (.inl (spS z (spC v)).1) ∧ PP b1 b2 h (spS z (spC v)).2 z2 (c + 1) c2) := by
      simp (disch := omega) only [e_89, w_89_0, w_89_1, w_89_2, w_89_3, w_89_4, w_89_5, w_89_6, w_89_7, w_89_8, w_89_9, getK, putK, ialK, iasK, aalK, aasK, alnK, zgt_u, zgt_a, Option.toList_some, Option.toList_none, List.cons_append, List.nil_append, List.map_cons, List.map_nil, List.replicate, ite_true, ite_false, if_true, if_false, List.getElem?_cons_zero, List.getElem?_cons_succ, List.set_cons_zero, List.set_cons_succ, true_and, and_true, beq_self_eq_true, zite, Int.toNat_natCast, if_pos, if_neg, zwr_id, zand, l_low]
      exact lp_spell hP (1 + lowF v 4).toNat 0 0 (by omega) (Int.le_refl _) (fun H' a => ⟨rfl, a⟩)
    obtain ⟨n, r, h', e1, e2, e3⟩ := hw
    exact ⟨h', e3, n, r, h', e1, e2, rfl⟩
  obtain ⟨H', a1, a2⟩ := key
  exact ⟨H', a1, fun Q => zca_det a2⟩
end
