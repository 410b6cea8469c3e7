/-! AN ITEM PUT INTO A FAMILY -/
def rg (g : Int) (x : zI) : zI := if x.1 < g then (g, x.2) else x
section
variable {sc : Nat × (Int → Int)} {h : zH} {Q : Option zV → zH → Prop} {b : Nat} {L : List zI}
theorem lp_put {L : List zI} {g : Int} (l1 l2 : Option zV) (hs : srtI L) (hL : L.length ≤ 48) (hg : ∀ x ∈ L, x.1 ≠ g) : ∀ (S : List zI) (h : zH) (L1 P : List zI), L1 ++ S = L → P.Perm (L1.map (rg g)) → srtI P → rB h b L.length (P ++ S) → (∀ h' P', rIt h' b P' → srtI P' → P'.Perm (L.map (rg g)) → fr h h' b 4 → zwp sc 28 25 [some (.inr (.inl (some b))), l1, l2, some (.inl g), some (.inl (L.length : Int))] [] h' Q) → zwp sc 28 5 [some (.inr (.inl (some b))), l1, l2, some (.inl g), some (.inl (P.length : Int))] [] h Q := by
  intro S
  induction S with
  | nil =>
    intro h L1 P hLS hp hsP hB hQ
    rw [List.append_nil] at hLS hB
    subst hLS
    have hlen : P.length = L1.length := by rw [hp.length_eq, List.length_map]
    have hQ := hQ h P (rB_It.mpr (by rw [hlen]; exact hB)) hsP hp fr_rf
    obtain ⟨G, C, W, hA, hr⟩ := hB
    have h00 := hA.1
    rw [w_28_5]
    simp (disch := omega) only [e_28, w_28_0, w_28_1, w_28_2, w_28_3, w_28_4, w_28_6, w_28_7, w_28_8, w_28_9, w_28_10, w_28_11, w_28_12, w_28_13, w_28_14, w_28_15, w_28_16, w_28_17, w_28_18, w_28_19, w_28_20, w_28_21, w_28_22, w_28_23, w_28_24, getK, putK, ialK, iasK, aalK, aasK, alnK, zgt_u, zgt_a, Option.toList_some, Option.toList_none, List.cons_append, List.nil_append, List.map_cons, List.map_nil, List.replicate, ite_true, ite_false, if_true, if_false, List.getElem?_cons_zero, List.getElem?_cons_succ, List.set_cons_zero, List.set_cons_succ, true_and, and_true, beq_self_eq_true, zite, Int.toNat_natCast, if_pos, if_neg, zwr_id, zand, h00]
    rw [hlen]
    exact hQ
  | cons x S ih =>
    intro h L1 P hLS hp hsP hB hQ
    have hlen : P.length = L1.length := by rw [hp.length_eq, List.length_map]
    have hn : (P.length : Int) + 1 + S.length = L.length := by rw [hlen, ← hLS]; simp; omega
    obtain ⟨G, C, W, hA, hr⟩ := id hB
    obtain ⟨h0, h1, h2, h3⟩ := id hA
    have hm := rI_mid hr
    have e : (P.length : Int) + 1 = ((L1 ++ [x]).length : Nat) := by rw [hlen]; simp
    have hgx : x.1 ≠ g := hg x (by rw [← hLS]; simp)
    rw [w_28_5]
    by_cases c : x.1 < g
    · have hm1 := hm.1
      simp (disch := omega) only [e_28, w_28_0, w_28_1, w_28_2, w_28_3, w_28_4, w_28_6, w_28_7, w_28_8, w_28_9, w_28_10, w_28_11, w_28_12, w_28_13, w_28_14, w_28_15, w_28_16, w_28_17, w_28_18, w_28_19, w_28_20, w_28_21, w_28_22, w_28_23, w_28_24, getK, putK, ialK, iasK, aalK, aasK, alnK, zgt_u, zgt_a, Option.toList_some, Option.toList_none, List.cons_append, List.nil_append, List.map_cons, List.map_nil, List.replicate, ite_true, ite_false, if_true, if_false, List.getElem?_cons_zero, List.getElem?_cons_succ, List.set_cons_zero, List.set_cons_succ, true_and, and_true, beq_self_eq_true, zite, Int.toNat_natCast, if_pos, if_neg, zwr_id, zand, h0, h1, hm1, Nat.add_left_cancel_iff, Nat.reduceEqDiff, Nat.left_eq_add, Nat.add_eq_left]
      generalize hh : zuH h (b + 1) _ = h1'
      have hA1 : rA h1' b L.length (zup G P.length g) C W := by
        rw [← hh]
        refine ⟨?_, ?_, ?_, ?_⟩
        · simp (disch := omega) only [zgt_u, zgt_a, if_pos, if_neg, if_true, if_false, ite_true, ite_false]
          exact h0
        · simp (disch := omega) only [zgt_u, zgt_a, if_pos, if_neg, if_true, if_false, ite_true, ite_false]
        · simp (disch := omega) only [zgt_u, zgt_a, if_pos, if_neg, if_true, if_false, ite_true, ite_false]
          exact h2
        · simp (disch := omega) only [zgt_u, zgt_a, if_pos, if_neg, if_true, if_false, ite_true, ite_false]
          exact h3
      have hf1 : fr h h1' b 4 := by
        rw [← hh]
        exact fr_u fr_rf (by omega) (by omega)
      have hr1 : rI (zup G P.length g) C W 0 (P ++ rg g x :: S) := by
        obtain ⟨q1, q2⟩ := rI_app.mp hr
        refine rI_app.mpr ⟨rI_ext q1 (fun k a1 a2 => ?_), ?_⟩
        · rw [zup_n (by omega)]
          exact ⟨rfl, rfl, rfl⟩
        · rw [Int.zero_add] at q2 ⊢
          have hrg : rg g x = (g, x.2) := if_pos c
          rw [hrg]
          exact ⟨zup_s _ _ _, q2.2.1, q2.2.2.1, rI_ext q2.2.2.2 (fun k a1 a2 => ⟨zup_n (by omega), rfl, rfl⟩)⟩
      rw [zand (rA_rc hA1)]
      refine s_moveDown (n := L.length) ⟨_, _, _, hA1, hr1⟩ (by omega) (by omega) hsP (fun h' P' hB' hs' hp' hf => ?_)
      have hlen' : P'.length = P.length + 1 := by rw [hp'.length_eq, List.length_cons]
      have hp2 : P'.Perm ((L1 ++ [x]).map (rg g)) := by
        refine hp'.trans ?_
        rw [List.map_append]
        exact (List.Perm.cons _ hp).trans (List.perm_append_singleton _ _).symm
      have := ih h' (L1 ++ [x]) P' (by rw [← hLS]; simp) hp2 hs' hB' (fun h'' P'' a1 a2 a3 a4 => hQ h'' P'' a1 a2 a3 (fr_tr hf1 (fr_tr hf a4)))
      simp (disch := omega) only [e_28, w_28_0, w_28_1, w_28_2, w_28_3, w_28_4, w_28_6, w_28_7, w_28_8, w_28_9, w_28_10, w_28_11, w_28_12, w_28_13, w_28_14, w_28_15, w_28_16, w_28_17, w_28_18, w_28_19, w_28_20, w_28_21, w_28_22, w_28_23, w_28_24, getK, putK, ialK, iasK, aalK, aasK, alnK, zgt_u, zgt_a, Option.toList_some, Option.toList_none, List.cons_append, List.nil_append, List.map_cons, List.map_nil, List.replicate, ite_true, ite_false, if_true, if_false, List.getElem?_cons_zero, List.getElem?_cons_succ, List.set_cons_zero, List.set_cons_succ, true_and, and_true, beq_self_eq_true, zite, Int.toNat_natCast, if_pos, if_neg, zwr_id, zand]
      rw [show (P.length : Int) + 1 = (P'.length : Nat) by omega]
      exact this
    · have hm1 := hm.1
      simp (disch := omega) only [e_28, w_28_0, w_28_1, w_28_2, w_28_3, w_28_4, w_28_6, w_28_7, w_28_8, w_28_9, w_28_10, w_28_11, w_28_12, w_28_13, w_28_14, w_28_15, w_28_16, w_28_17, w_28_18, w_28_19, w_28_20, w_28_21, w_28_22, w_28_23, w_28_24, getK, putK, ialK, iasK, aalK, aasK, alnK, zgt_u, zgt_a, Option.toList_some, Option.toList_none, List.cons_append, List.nil_append, List.map_cons, List.map_nil, List.replicate, ite_true, ite_false, if_true, if_false, List.getElem?_cons_zero, List.getElem?_cons_succ, List.set_cons_zero, List.set_cons_succ, true_and, and_true, beq_self_eq_true, zite, Int.toNat_natCast, if_pos, if_neg, zwr_id, zand, h0, h1, hm1, Nat.add_left_cancel_iff, Nat.reduceEqDiff, Nat.left_eq_add, Nat.add_eq_left]
      have hrg : rg g x = x := if_neg c
      have hp2 : (P ++ [x]).Perm ((L1 ++ [x]).map (rg g)) := by
        rw [List.map_append, List.map_cons, List.map_nil, hrg]
        exact List.Perm.append_right _ hp
      have hs2 : srtI (P ++ [x]) := by
        refine List.pairwise_append.mpr ⟨hsP, List.pairwise_singleton _ _, fun a ha b hb => ?_⟩
        rw [List.mem_singleton.mp hb]
        obtain ⟨y, hy, rfl⟩ := List.mem_map.mp (hp.mem_iff.mp ha)
        have hyx : ¬ ltI x y := by
          rw [← hLS] at hs
          exact (List.pairwise_append.mp hs).2.2 y hy x (by simp)
        unfold rg
        split
        · unfold ltI; dsimp only; omega
        · exact hyx
      have := ih h (L1 ++ [x]) (P ++ [x]) (by rw [← hLS]; simp) hp2 hs2 (by simpa using hB) hQ
      rw [show (P.length : Int) + 1 = ((P ++ [x]).length : Nat) by simp]
      exact this
theorem s_put {c w : Int} (hI : rIt h b L) (hs : srtI L) (hL : L.length < 48) (hg : ∀ x ∈ L, x.1 ≠ leg L 7 0) (hQ : ∀ h' L', rIt h' b L' → srtI L' → L'.Perm ((leg L 7 0, c, w) :: L.map (rg (leg L 7 0))) → fr h h' b 4 → Q (some (.inl (leg L 7 0))) h') : zca sc 28 [.inr (.inl (some b)), .inl c, .inl w] h Q := by
  have hB := rB_It.mp hI
  simp (disch := omega) only [e_28, w_28_0, w_28_1, w_28_2, w_28_3, w_28_4, w_28_6, w_28_7, w_28_8, w_28_9, w_28_10, w_28_11, w_28_12, w_28_13, w_28_14, w_28_15, w_28_16, w_28_17, w_28_18, w_28_19, w_28_20, w_28_21, w_28_22, w_28_23, w_28_24, w_28_25, w_28_26, w_28_27, w_28_28, w_28_29, w_28_30, w_28_31, getK, putK, ialK, iasK, aalK, aasK, alnK, zgt_u, zgt_a, Option.toList_some, Option.toList_none, List.cons_append, List.nil_append, List.map_cons, List.map_nil, List.replicate, ite_true, ite_false, if_true, if_false, List.getElem?_cons_zero, List.getElem?_cons_succ, List.set_cons_zero, List.set_cons_succ, true_and, and_true, beq_self_eq_true, zite, Int.toNat_natCast, if_pos, if_neg, zwr_id, zand, rIt_rc hI, s_leastEmpty hI (Nat.le_of_lt hL)]
  refine lp_put _ _ hs (by omega) hg L h [] [] rfl (List.Perm.refl _) List.Pairwise.nil hB (fun h1 P hI1 hs1 hp1 hf1 => ?_)
  simp (disch := omega) only [e_28, w_28_0, w_28_1, w_28_2, w_28_3, w_28_4, w_28_6, w_28_7, w_28_8, w_28_9, w_28_10, w_28_11, w_28_12, w_28_13, w_28_14, w_28_15, w_28_16, w_28_17, w_28_18, w_28_19, w_28_20, w_28_21, w_28_22, w_28_23, w_28_24, w_28_25, w_28_26, w_28_27, w_28_28, w_28_29, w_28_30, w_28_31, getK, putK, ialK, iasK, aalK, aasK, alnK, zgt_u, zgt_a, Option.toList_some, Option.toList_none, List.cons_append, List.nil_append, List.map_cons, List.map_nil, List.replicate, ite_true, ite_false, if_true, if_false, List.getElem?_cons_zero, List.getElem?_cons_succ, List.set_cons_zero, List.set_cons_succ, true_and, and_true, beq_self_eq_true, zite, Int.toNat_natCast, if_pos, if_neg, zwr_id, zand, rIt_rc hI1]
  refine s_add (x := (leg L 7 0, c, w)) hI1 (by rw [hp1.length_eq, List.length_map]; exact hL) hs1 (fun h' L' a1 a2 a3 a4 => ?_)
  simp (disch := omega) only [e_28, w_28_0, w_28_1, w_28_2, w_28_3, w_28_4, w_28_6, w_28_7, w_28_8, w_28_9, w_28_10, w_28_11, w_28_12, w_28_13, w_28_14, w_28_15, w_28_16, w_28_17, w_28_18, w_28_19, w_28_20, w_28_21, w_28_22, w_28_23, w_28_24, w_28_25, w_28_26, w_28_27, w_28_28, w_28_29, w_28_30, w_28_31, getK, putK, ialK, iasK, aalK, aasK, alnK, zgt_u, zgt_a, Option.toList_some, Option.toList_none, List.cons_append, List.nil_append, List.map_cons, List.map_nil, List.replicate, ite_true, ite_false, if_true, if_false, List.getElem?_cons_zero, List.getElem?_cons_succ, List.set_cons_zero, List.set_cons_succ, true_and, and_true, beq_self_eq_true, zite, Int.toNat_natCast, if_pos, if_neg, zwr_id, zand]
  exact hQ h' L' a1 a2 (a3.trans (List.Perm.cons _ hp1)) (fr_tr hf1 a4)
end
