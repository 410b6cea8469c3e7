/-! THE MODEL'S TEXT WRITTEN -/
section
variable {sc : Nat × (Int → Int)} {h : zH} {Q : Option zV → zH → Prop} {z : zS}
theorem lp_type6 {pm fl p n0 : Int} (hw : wd p) : ∀ (j : Nat) (k : Int) (h : zH) (T : Int → Int) (n : Int), k + j = nd p + 1 → 1 ≤ k → zgt h 24 = .inl (6, [.inr (.inl (some 25)), .inr (.inl (some 26)), .inl (pm), .inr (.inl (some 27)), .inl ( fl), .inl ( p), .inr (.inl (some 28)), .inl ( n), .inr (.inl (some 29)), .inr (.inl (some 30)), .inr (.inl (some 31))]) → zgt h 28 = .inr (.inl (60, T)) → 0 ≤ n → n + j ≤ 60 → (∀ h', zgt h' 24 = .inl (6, [.inr (.inl (some 25)), .inr (.inl (some 26)), .inl (pm), .inr (.inl (some 27)), .inl ( fl), .inl ( p), .inr (.inl (some 28)), .inl ( n + j), .inr (.inl (some 29)), .inr (.inl (some 30)), .inr (.inl (some 31))]) → zgt h' 28 = .inr (.inl (60, apR p j T n)) → (∀ i, i ≠ 24 → i ≠ 28 → zgt h' i = zgt h i) → h'.1 = h.1 → h'.2.1 = h.2.1 → Q (some (.inl (n + j))) h') → zwp sc 100 19 [some (.inr (.inl (some 24))), some (.inl (nd p)), some (.inl k)] [] h Q := by
  have hn := wd_nd hw
  have hp := wd_pos hw
  have hp2 := hw.2.1
  intro j
  induction j with
  | zero =>
    intro k h T n hk h1 m0 m4 hn0 hn60 hQ
    rw [Int.natCast_zero, Int.add_zero] at hQ
    rw [w_100_19]
    simp (disch := omega) only [e_100, w_100_0, w_100_1, w_100_2, w_100_3, w_100_4, w_100_5, w_100_6, w_100_7, w_100_8, w_100_9, w_100_10, w_100_11, w_100_12, w_100_13, w_100_14, w_100_15, w_100_16, w_100_17, w_100_18, w_100_20, w_100_21, w_100_22, w_100_23, w_100_24, w_100_25, w_100_26, w_100_27, w_100_28, w_100_29, w_100_30, w_100_31, w_100_32, w_100_33, w_100_34, w_100_35, w_100_36, w_100_37, w_100_38, w_100_39, w_100_40, w_100_41, w_100_42, w_100_43, w_100_44, w_100_45, getK, putK, ialK, iasK, aalK, aasK, alnK, zgt_u, zgt_a, Option.toList_some, Option.toList_none, List.cons_append, List.nil_append, List.map_cons, List.map_nil, List.replicate, ite_true, ite_false, if_true, if_false, List.getElem?_cons_zero, List.getElem?_cons_succ, List.set_cons_zero, List.set_cons_succ, true_and, and_true, beq_self_eq_true, zite, Int.toNat_natCast, if_pos, if_neg, zwr_id, zand, m0]
    exact hQ h m0 m4 (fun _ _ _ => rfl) rfl rfl
  | succ j ih =>
    intro k h T n hk h1 m0 m4 hn0 hn60 hQ
    have e : bg p k = p / tp j := by unfold bg; rw [show (nd p - k).toNat = j by omega]
    have hd := dg_at j p hw.2.2 ((tp_le j).mpr (by omega))
    have hq : 0 ≤ p / tp j := Int.ediv_nonneg (by omega) (by have := tp_pos j; omega)
    rw [w_100_19]
    simp (disch := omega) only [e_100, w_100_0, w_100_1, w_100_2, w_100_3, w_100_4, w_100_5, w_100_6, w_100_7, w_100_8, w_100_9, w_100_10, w_100_11, w_100_12, w_100_13, w_100_14, w_100_15, w_100_16, w_100_17, w_100_18, w_100_20, w_100_21, w_100_22, w_100_23, w_100_24, w_100_25, w_100_26, w_100_27, w_100_28, w_100_29, w_100_30, w_100_31, w_100_32, w_100_33, w_100_34, w_100_35, w_100_36, w_100_37, w_100_38, w_100_39, w_100_40, w_100_41, w_100_42, w_100_43, w_100_44, w_100_45, getK, putK, ialK, iasK, aalK, aasK, alnK, zgt_u, zgt_a, Option.toList_some, Option.toList_none, List.cons_append, List.nil_append, List.map_cons, List.map_nil, List.replicate, ite_true, ite_false, if_true, if_false, List.getElem?_cons_zero, List.getElem?_cons_succ, List.set_cons_zero, List.set_cons_succ, true_and, and_true, beq_self_eq_true, zite, Int.toNat_natCast, if_pos, if_neg, zwr_id, zand, m0, m4, s_beginning, e, Nat.reduceEqDiff]
    refine ih (k + 1) _ (zup T n (p / tp j % 10 - 1)) (n + 1) (by omega) (by omega) ?_ ?_ (by omega) (by omega) (fun h' a1 a2 a3 a4 a5 => ?_)
    · simp (disch := omega) only [zgt_u, zgt_a, if_pos, if_neg, if_true, if_false, ite_true, ite_false]
    · simp (disch := omega) only [zgt_u, zgt_a, if_pos, if_neg, if_true, if_false, ite_true, ite_false]
    · rw [show n + ((j + 1 : Nat) : Int) = n + 1 + j by omega] at hQ
      refine hQ h' a1 a2 (fun i b1 b2 => ?_) a4 a5
      rw [a3 i b1 b2]
      simp (disch := omega) only [zgt_u, zgt_a, if_pos, if_neg, if_true, if_false, ite_true, ite_false]
theorem s6_type (hM : rM h z) (hz : okZ z) (hQ : ∀ h', rM h' (tyS z).2 → fr h h' 24 8 → Q (some (.inl (tyS z).1)) h') : zca sc 100 [.inr (.inl (some 24))] h Q := by
  have hp := okZ_p hz
  obtain ⟨m0, ⟨w, m1, m1'⟩, ⟨pa, m2, m2'⟩, ⟨im, m3, m3'⟩, m4, ⟨f5, m5⟩, ⟨f6, m6⟩, f7, m7⟩ := id hM
  have hT := hz.2.2.2.2.2.2
  have h60 := hT.2.1
  have h00 := hT.1
  unfold tyS at hQ
  by_cases h1 : z.p = 0
  · rw [if_pos h1] at hQ
    simp (disch := omega) only [e_100, w_100_0, w_100_1, w_100_2, w_100_3, w_100_4, w_100_5, w_100_6, w_100_7, w_100_8, w_100_9, w_100_10, w_100_11, w_100_12, w_100_13, w_100_14, w_100_15, w_100_16, w_100_17, w_100_18, w_100_20, w_100_21, w_100_22, w_100_23, w_100_24, w_100_25, w_100_26, w_100_27, w_100_28, w_100_29, w_100_30, w_100_31, w_100_32, w_100_33, w_100_34, w_100_35, w_100_36, w_100_37, w_100_38, w_100_39, w_100_40, w_100_41, w_100_42, w_100_43, w_100_44, w_100_45, getK, putK, ialK, iasK, aalK, aasK, alnK, zgt_u, zgt_a, Option.toList_some, Option.toList_none, List.cons_append, List.nil_append, List.map_cons, List.map_nil, List.replicate, ite_true, ite_false, if_true, if_false, List.getElem?_cons_zero, List.getElem?_cons_succ, List.set_cons_zero, List.set_cons_succ, true_and, and_true, beq_self_eq_true, zite, Int.toNat_natCast, if_pos, if_neg, zwr_id, zand, m0]
    exact hQ h hM fr_rf
  · rw [if_neg h1] at hQ
    have hw : wd z.p := by rcases hz.2.2.2.2.2.1 with q | q; exact absurd q h1; exact q
    by_cases h2 : 60 < z.n + nd z.p
    · rw [if_pos h2] at hQ
      simp (disch := omega) only [e_100, w_100_0, w_100_1, w_100_2, w_100_3, w_100_4, w_100_5, w_100_6, w_100_7, w_100_8, w_100_9, w_100_10, w_100_11, w_100_12, w_100_13, w_100_14, w_100_15, w_100_16, w_100_17, w_100_18, w_100_20, w_100_21, w_100_22, w_100_23, w_100_24, w_100_25, w_100_26, w_100_27, w_100_28, w_100_29, w_100_30, w_100_31, w_100_32, w_100_33, w_100_34, w_100_35, w_100_36, w_100_37, w_100_38, w_100_39, w_100_40, w_100_41, w_100_42, w_100_43, w_100_44, w_100_45, getK, putK, ialK, iasK, aalK, aasK, alnK, zgt_u, zgt_a, Option.toList_some, Option.toList_none, List.cons_append, List.nil_append, List.map_cons, List.map_nil, List.replicate, ite_true, ite_false, if_true, if_false, List.getElem?_cons_zero, List.getElem?_cons_succ, List.set_cons_zero, List.set_cons_succ, true_and, and_true, beq_self_eq_true, zite, Int.toNat_natCast, if_pos, if_neg, zwr_id, zand, m0, s_lettersOf6]
      exact hQ h hM fr_rf
    · rw [if_neg h2] at hQ
      simp (disch := omega) only [e_100, w_100_0, w_100_1, w_100_2, w_100_3, w_100_4, w_100_5, w_100_6, w_100_7, w_100_8, w_100_9, w_100_10, w_100_11, w_100_12, w_100_13, w_100_14, w_100_15, w_100_16, w_100_17, w_100_18, w_100_20, w_100_21, w_100_22, w_100_23, w_100_24, w_100_25, w_100_26, w_100_27, w_100_28, w_100_29, w_100_30, w_100_31, w_100_32, w_100_33, w_100_34, w_100_35, w_100_36, w_100_37, w_100_38, w_100_39, w_100_40, w_100_41, w_100_42, w_100_43, w_100_44, w_100_45, getK, putK, ialK, iasK, aalK, aasK, alnK, zgt_u, zgt_a, Option.toList_some, Option.toList_none, List.cons_append, List.nil_append, List.map_cons, List.map_nil, List.replicate, ite_true, ite_false, if_true, if_false, List.getElem?_cons_zero, List.getElem?_cons_succ, List.set_cons_zero, List.set_cons_succ, true_and, and_true, beq_self_eq_true, zite, Int.toNat_natCast, if_pos, if_neg, zwr_id, zand, m0, s_lettersOf6]
      have e : (((nd z.p).toNat : Nat) : Int) = nd z.p := by omega
      refine lp_type6 (n0 := 0) hw (nd z.p).toNat 1 h z.T z.n (by omega) (by omega) m0 m4 (by omega) (by omega) (fun h' a1 a2 a3 a4 a5 => ?_)
      rw [e] at a1 ⊢
      refine hQ h' ⟨a1, ⟨w, ?_, m1'⟩, ⟨pa, ?_, m2'⟩, ⟨im, ?_, m3'⟩, a2, ⟨f5, ?_⟩, ⟨f6, ?_⟩, ⟨f7, ?_⟩⟩ ⟨a4, a5, fun k hk => a3 k (by omega) (by omega)⟩
      all_goals rw [a3 _ (by omega) (by omega)]; assumption
end
