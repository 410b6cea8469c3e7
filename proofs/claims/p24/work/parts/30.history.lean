/-! THE HISTORY AND THE KEPT DICTIONARIES: dictionary number j stands at B0 + 13 j; o says which one a place holds (0 to 7 the states, 8 and 9 the images) -/
def rSt (h : zH) (B0 a hb im : Nat) (nx sz : Int) (o : Int → Option Nat) (D : Nat → zDt) : Prop :=
  h.1 = B0 + 13 * a ∧ (∃ g, rHi h hb nx sz g ∧ ∀ i, 0 ≤ i → i < 8 → g i = (o i).map (fun j => B0 + 13 * j)) ∧ (∃ g, zgt h im = .inr (.inr (2, g)) ∧ ∀ i, 0 ≤ i → i < 2 → g i = (o (8 + i)).map (fun j => B0 + 13 * j)) ∧ (∀ j, j < a → rDt h (B0 + 13 * j) (D j) ∧ okDt (D j)) ∧ (∀ i j, o i = some j → j < a) ∧ (∀ i i' j, o i = some j → o i' = some j → i = i')
section
variable {sc : Nat × (Int → Int)} {h : zH} {Q : Option zV → zH → Prop} {B0 a hb im pb : Nat} {S : zDt} {nx sz : Int} {o : Int → Option Nat} {D : Nat → zDt}
theorem s_hsize {g : Int → Option Nat} (hH : rHi h hb nx sz g) : zca sc 11 [.inr (.inl (some hb))] h Q = Q (some (.inl sz)) h := by
  have h0 := hH.1
  simp (disch := omega) only [e_11, w_11_0, w_11_1, w_11_2, getK, putK, ialK, iasK, aalK, aasK, alnK, zgt_u, zgt_a, Option.toList_some, Option.toList_none, List.cons_append, List.nil_append, List.map_cons, List.map_nil, List.replicate, ite_true, ite_false, if_true, if_false, List.getElem?_cons_zero, List.getElem?_cons_succ, List.set_cons_zero, List.set_cons_succ, true_and, and_true, beq_self_eq_true, zite, Int.toNat_natCast, if_pos, if_neg, zwr_id, zand, h0]
theorem lp_record {q : Nat} {g : Int → Option Nat} (hq : hb + 2 ≤ q) (hpq : pb + 13 ≤ q) (hhp : hb + 2 ≤ pb ∨ pb + 13 ≤ hb) (hH : rHi h hb nx sz g) (hnx : 0 ≤ nx ∧ nx < 8) (hsz : 0 ≤ sz ∧ sz ≤ 8) (hs : shD h q) (hD : rDt h pb S) (hok : okDt S)
    (hQ : ∀ h', rDt h' q S → rDt h' pb S → rHi h' hb (if nx + 1 < 8 then nx + 1 else 0) (if 8 < sz + 1 then 8 else sz + 1) g → (∀ k, (k < q ∨ q + 13 ≤ k) → k ≠ hb → zgt h' k = zgt h k) → h'.1 = h.1 → h'.2.1 = h.2.1 → Q none h') : zwp sc 12 18 [some (.inr (.inl (some hb))), some (.inr (.inl (some pb))), some (.inr (.inl (some q)))] [] h Q := by
  obtain ⟨g1, g2⟩ := hH
  obtain ⟨cs, rb, q0, -⟩ := id hs
  simp (disch := omega) only [e_12, w_12_18, w_12_19, w_12_20, w_12_21, w_12_22, w_12_23, w_12_24, w_12_25, w_12_26, w_12_27, w_12_28, w_12_29, w_12_30, w_12_31, w_12_32, w_12_33, w_12_34, w_12_35, w_12_36, w_12_37, w_12_38, w_12_39, w_12_40, w_12_41, w_12_42, w_12_43, getK, putK, ialK, iasK, aalK, aasK, alnK, zgt_u, zgt_a, Option.toList_some, Option.toList_none, List.cons_append, List.nil_append, List.map_cons, List.map_nil, List.replicate, ite_true, ite_false, if_true, if_false, List.getElem?_cons_zero, List.getElem?_cons_succ, List.set_cons_zero, List.set_cons_succ, true_and, and_true, beq_self_eq_true, zite, Int.toNat_natCast, if_pos, if_neg, zwr_id, zand, zrc q0]
  refine s_copy0 (Or.inl hpq) hs hD hok (fun h1 j1 j2 => ?_)
  have g11 : zgt h1 hb = _ := (j2.2.2 hb (by omega)).trans g1
  have g12 : zgt h1 (hb + 1) = _ := (j2.2.2 (hb + 1) (by omega)).trans g2
  have hD1 := rDt_fr hD j2 (by omega)
  by_cases c : nx + 1 < 8
  · rw [if_pos c] at hQ
    by_cases c2 : 8 < sz + 1
    · rw [if_pos c2] at hQ
      simp (disch := omega) only [e_12, w_12_0, w_12_1, w_12_2, w_12_3, w_12_4, w_12_5, w_12_6, w_12_7n, w_12_7s, w_12_8, w_12_9, w_12_10, w_12_11, w_12_12, w_12_13, w_12_14, w_12_15, w_12_16, w_12_17, w_12_18, w_12_19, w_12_20, w_12_21, w_12_22, w_12_23, w_12_24, w_12_25, w_12_26, w_12_27, w_12_28, w_12_29, w_12_30, w_12_31, w_12_32, w_12_33, w_12_34, w_12_35, w_12_36, w_12_37, w_12_38, w_12_39, w_12_40, w_12_41, w_12_42, w_12_43, getK, putK, ialK, iasK, aalK, aasK, alnK, zgt_u, zgt_a, Option.toList_some, Option.toList_none, List.cons_append, List.nil_append, List.map_cons, List.map_nil, List.replicate, ite_true, ite_false, if_true, if_false, List.getElem?_cons_zero, List.getElem?_cons_succ, List.set_cons_zero, List.set_cons_succ, true_and, and_true, beq_self_eq_true, zite, Int.toNat_natCast, if_pos, if_neg, zwr_id, zand, g11]
      generalize hh : zuH _ hb _ = h2
      have hf : fr h1 h2 hb 1 := by rw [← hh]; exact fr_u (fr_u fr_rf (Nat.le_refl _) (by omega)) (Nat.le_refl _) (by omega)
      refine hQ h2 (rDt_fr j1 hf (by omega)) (rDt_fr hD1 hf (by omega)) ⟨?_, ?_⟩ (fun k hk hk2 => (hf.2.2 k (by omega)).trans (j2.2.2 k hk)) (hf.1.trans j2.1) (hf.2.1.trans j2.2.1)
      · rw [← hh]
        simp (disch := omega) only [zgt_u, zgt_a, if_pos, if_neg, if_true, if_false, ite_true, ite_false]
      · rw [hf.2.2 _ (by omega)]; exact g12
    · rw [if_neg c2] at hQ
      simp (disch := omega) only [e_12, w_12_0, w_12_1, w_12_2, w_12_3, w_12_4, w_12_5, w_12_6, w_12_7n, w_12_7s, w_12_8, w_12_9, w_12_10, w_12_11, w_12_12, w_12_13, w_12_14, w_12_15, w_12_16, w_12_17, w_12_18, w_12_19, w_12_20, w_12_21, w_12_22, w_12_23, w_12_24, w_12_25, w_12_26, w_12_27, w_12_28, w_12_29, w_12_30, w_12_31, w_12_32, w_12_33, w_12_34, w_12_35, w_12_36, w_12_37, w_12_38, w_12_39, w_12_40, w_12_41, w_12_42, w_12_43, getK, putK, ialK, iasK, aalK, aasK, alnK, zgt_u, zgt_a, Option.toList_some, Option.toList_none, List.cons_append, List.nil_append, List.map_cons, List.map_nil, List.replicate, ite_true, ite_false, if_true, if_false, List.getElem?_cons_zero, List.getElem?_cons_succ, List.set_cons_zero, List.set_cons_succ, true_and, and_true, beq_self_eq_true, zite, Int.toNat_natCast, if_pos, if_neg, zwr_id, zand, g11]
      generalize hh : zuH _ hb _ = h2
      have hf : fr h1 h2 hb 1 := by rw [← hh]; exact fr_u (fr_u fr_rf (Nat.le_refl _) (by omega)) (Nat.le_refl _) (by omega)
      refine hQ h2 (rDt_fr j1 hf (by omega)) (rDt_fr hD1 hf (by omega)) ⟨?_, ?_⟩ (fun k hk hk2 => (hf.2.2 k (by omega)).trans (j2.2.2 k hk)) (hf.1.trans j2.1) (hf.2.1.trans j2.2.1)
      · rw [← hh]
        simp (disch := omega) only [zgt_u, zgt_a, if_pos, if_neg, if_true, if_false, ite_true, ite_false]
      · rw [hf.2.2 _ (by omega)]; exact g12
  · rw [if_neg c] at hQ
    by_cases c2 : 8 < sz + 1
    · rw [if_pos c2] at hQ
      simp (disch := omega) only [e_12, w_12_0, w_12_1, w_12_2, w_12_3, w_12_4, w_12_5, w_12_6, w_12_7n, w_12_7s, w_12_8, w_12_9, w_12_10, w_12_11, w_12_12, w_12_13, w_12_14, w_12_15, w_12_16, w_12_17, w_12_18, w_12_19, w_12_20, w_12_21, w_12_22, w_12_23, w_12_24, w_12_25, w_12_26, w_12_27, w_12_28, w_12_29, w_12_30, w_12_31, w_12_32, w_12_33, w_12_34, w_12_35, w_12_36, w_12_37, w_12_38, w_12_39, w_12_40, w_12_41, w_12_42, w_12_43, getK, putK, ialK, iasK, aalK, aasK, alnK, zgt_u, zgt_a, Option.toList_some, Option.toList_none, List.cons_append, List.nil_append, List.map_cons, List.map_nil, List.replicate, ite_true, ite_false, if_true, if_false, List.getElem?_cons_zero, List.getElem?_cons_succ, List.set_cons_zero, List.set_cons_succ, true_and, and_true, beq_self_eq_true, zite, Int.toNat_natCast, if_pos, if_neg, zwr_id, zand, g11]
      generalize hh : zuH _ hb _ = h2
      have hf : fr h1 h2 hb 1 := by rw [← hh]; exact fr_u (fr_u fr_rf (Nat.le_refl _) (by omega)) (Nat.le_refl _) (by omega)
      refine hQ h2 (rDt_fr j1 hf (by omega)) (rDt_fr hD1 hf (by omega)) ⟨?_, ?_⟩ (fun k hk hk2 => (hf.2.2 k (by omega)).trans (j2.2.2 k hk)) (hf.1.trans j2.1) (hf.2.1.trans j2.2.1)
      · rw [← hh]
        simp (disch := omega) only [zgt_u, zgt_a, if_pos, if_neg, if_true, if_false, ite_true, ite_false]
      · rw [hf.2.2 _ (by omega)]; exact g12
    · rw [if_neg c2] at hQ
      simp (disch := omega) only [e_12, w_12_0, w_12_1, w_12_2, w_12_3, w_12_4, w_12_5, w_12_6, w_12_7n, w_12_7s, w_12_8, w_12_9, w_12_10, w_12_11, w_12_12, w_12_13, w_12_14, w_12_15, w_12_16, w_12_17, w_12_18, w_12_19, w_12_20, w_12_21, w_12_22, w_12_23, w_12_24, w_12_25, w_12_26, w_12_27, w_12_28, w_12_29, w_12_30, w_12_31, w_12_32, w_12_33, w_12_34, w_12_35, w_12_36, w_12_37, w_12_38, w_12_39, w_12_40, w_12_41, w_12_42, w_12_43, getK, putK, ialK, iasK, aalK, aasK, alnK, zgt_u, zgt_a, Option.toList_some, Option.toList_none, List.cons_append, List.nil_append, List.map_cons, List.map_nil, List.replicate, ite_true, ite_false, if_true, if_false, List.getElem?_cons_zero, List.getElem?_cons_succ, List.set_cons_zero, List.set_cons_succ, true_and, and_true, beq_self_eq_true, zite, Int.toNat_natCast, if_pos, if_neg, zwr_id, zand, g11]
      generalize hh : zuH _ hb _ = h2
      have hf : fr h1 h2 hb 1 := by rw [← hh]; exact fr_u (fr_u fr_rf (Nat.le_refl _) (by omega)) (Nat.le_refl _) (by omega)
      refine hQ h2 (rDt_fr j1 hf (by omega)) (rDt_fr hD1 hf (by omega)) ⟨?_, ?_⟩ (fun k hk hk2 => (hf.2.2 k (by omega)).trans (j2.2.2 k hk)) (hf.1.trans j2.1) (hf.2.1.trans j2.2.1)
      · rw [← hh]
        simp (disch := omega) only [zgt_u, zgt_a, if_pos, if_neg, if_true, if_false, ite_true, ite_false]
      · rw [hf.2.2 _ (by omega)]; exact g12
theorem s_record (h1' : hb + 2 ≤ B0) (h2' : pb + 13 ≤ B0) (h3' : hb + 2 ≤ pb ∨ pb + 13 ≤ hb) (h4' : im < B0) (h5' : im ≠ hb ∧ im ≠ hb + 1) (hR : rSt h B0 a hb im nx sz o D) (hnx : 0 ≤ nx ∧ nx < 8) (hsz : 0 ≤ sz ∧ sz ≤ 8) (hD : rDt h pb S) (hok : okDt S)
    (hQ : ∀ h' a' o' D' j, rSt h' B0 a' hb im (if nx + 1 < 8 then nx + 1 else 0) (if 8 < sz + 1 then 8 else sz + 1) o' D' → rDt h' pb S → o' nx = some j → D' j = S → (∀ i, i ≠ nx → o' i = o i) → (∀ i k, i ≠ nx → o i = some k → D' k = D k) → (∀ k, k < B0 → k ≠ hb → k ≠ hb + 1 → zgt h' k = zgt h k) → h'.2.1 ≤ h.2.1 + 449 → a' ≤ a + 1 → Q none h') : zca sc 12 [.inr (.inl (some hb)), .inr (.inl (some pb))] h Q := by
  obtain ⟨r1, ⟨g, ⟨r2, r3⟩, r4⟩, ⟨gi, r5, r6⟩, r7, r8, r9⟩ := hR
  have hg := r4 nx hnx.1 hnx.2
  cases hon : o nx with
  | some j =>
    rw [hon] at hg
    have hg : g nx = some (B0 + 13 * j) := hg
    have hj := r8 nx j hon
    obtain ⟨d1, d2⟩ := r7 j hj
    simp (disch := omega) only [e_12, w_12_0, w_12_1, w_12_2, w_12_3, w_12_4, w_12_5, w_12_6, w_12_7n, w_12_7s, w_12_8, w_12_9, w_12_10, w_12_11, w_12_12, w_12_13, w_12_14, w_12_15, w_12_16, w_12_17, getK, putK, ialK, iasK, aalK, aasK, alnK, zgt_u, zgt_a, Option.toList_some, Option.toList_none, List.cons_append, List.nil_append, List.map_cons, List.map_nil, List.replicate, ite_true, ite_false, if_true, if_false, List.getElem?_cons_zero, List.getElem?_cons_succ, List.set_cons_zero, List.set_cons_succ, true_and, and_true, beq_self_eq_true, zite, Int.toNat_natCast, if_pos, if_neg, zwr_id, zand, r2, r3, hg]
    refine lp_record (by omega) (by omega) h3' ⟨r2, r3⟩ hnx hsz (shD_of d1) hD hok (fun h' q1 q2 q3 q4 q5 q6 => ?_)
    refine hQ h' a o (fun k => if k = j then S else D k) j ⟨q5.trans r1, ⟨g, q3, r4⟩, ⟨gi, (q4 im (by omega) h5'.1).trans r5, r6⟩, fun k hk => ?_, r8, r9⟩ q2 hon (if_pos rfl) (fun i _ => rfl) (fun i k hi hk => if_neg (fun e => hi (r9 i nx j (by rw [← e]; exact hk) hon))) (fun k hk hk2 _ => q4 k (by omega) hk2) (by omega) (by omega)
    by_cases hkj : k = j
    · subst hkj
      simp only [if_true]
      exact ⟨q1, hok⟩
    · simp only [if_neg hkj]
      refine ⟨?_, (r7 k hk).2⟩
      have hd := (r7 k hk).1
      have hfr : ∀ c, B0 + 13 * k ≤ c → c < B0 + 13 * k + 13 → zgt h' c = zgt h c := fun c hc1 hc2 => q4 c (by omega) (by omega)
      obtain ⟨e0, ⟨G, C, W, e1⟩, ⟨L0, ⟨G0, C0, W0, e2⟩, e2'⟩, ⟨L1, ⟨G1, C1, W1, e3⟩, e3'⟩⟩ := hd
      refine ⟨by rw [hfr _ (by omega) (by omega)]; exact e0, ⟨G, C, W, ?_⟩, ⟨L0, ⟨G0, C0, W0, ?_⟩, e2'⟩, ⟨L1, ⟨G1, C1, W1, ?_⟩, e3'⟩⟩
      · rw [hfr _ (by omega) (by omega), hfr _ (by omega) (by omega), hfr _ (by omega) (by omega), hfr _ (by omega) (by omega)]; exact e1
      · rw [hfr _ (by omega) (by omega), hfr _ (by omega) (by omega), hfr _ (by omega) (by omega), hfr _ (by omega) (by omega)]; exact e2
      · rw [hfr _ (by omega) (by omega), hfr _ (by omega) (by omega), hfr _ (by omega) (by omega), hfr _ (by omega) (by omega)]; exact e3
  | none =>
    rw [hon] at hg
    have hg : g nx = none := hg
    simp (disch := omega) only [e_12, w_12_0, w_12_1, w_12_2, w_12_3, w_12_4, w_12_5, w_12_6, w_12_7n, w_12_7s, w_12_8, w_12_9, w_12_10, w_12_11, w_12_12, w_12_13, w_12_14, w_12_15, w_12_16, w_12_17, getK, putK, ialK, iasK, aalK, aasK, alnK, zgt_u, zgt_a, Option.toList_some, Option.toList_none, List.cons_append, List.nil_append, List.map_cons, List.map_nil, List.replicate, ite_true, ite_false, if_true, if_false, List.getElem?_cons_zero, List.getElem?_cons_succ, List.set_cons_zero, List.set_cons_succ, true_and, and_true, beq_self_eq_true, zite, Int.toNat_natCast, if_pos, if_neg, zwr_id, zand, r2, r3, hg, zrc_a r1, r1]
    refine s_init0 (by rw [zgt_a, if_pos r1.symm]) (by show h.1 + 1 = _; omega) (fun h2 j1 j2 => ?_)
    have j2 : frA h h2 (B0 + 13 * a) 13 449 := frA_tr (frA_a (by omega)) j2 (Nat.le_refl _)
    have r2' : zgt h2 hb = _ := (j2.2.2 hb (by omega)).trans r2
    have r3' : zgt h2 (hb + 1) = _ := (j2.2.2 (hb + 1) (by omega)).trans r3
    have hisD : isD h2 (B0 + 13 * a) = true := by unfold isD; rw [j1.1]; rfl
    simp (disch := omega) only [e_12, w_12_0, w_12_1, w_12_2, w_12_3, w_12_4, w_12_5, w_12_6, w_12_7n, w_12_7s, w_12_8, w_12_9, w_12_10, w_12_11, w_12_12, w_12_13, w_12_14, w_12_15, w_12_16, w_12_17, getK, putK, ialK, iasK, aalK, aasK, alnK, zgt_u, zgt_a, Option.toList_some, Option.toList_none, List.cons_append, List.nil_append, List.map_cons, List.map_nil, List.replicate, ite_true, ite_false, if_true, if_false, List.getElem?_cons_zero, List.getElem?_cons_succ, List.set_cons_zero, List.set_cons_succ, true_and, and_true, beq_self_eq_true, zite, Int.toNat_natCast, if_pos, if_neg, zwr_id, zand, r2', r3', hisD, aasK]
    generalize hh : zuH h2 (hb + 1) _ = h3
    have hf3 : fr h2 h3 (hb + 1) 1 := by rw [← hh]; exact fr_u fr_rf (Nat.le_refl _) (by omega)
    have b2 : h2.1 = B0 + 13 * a + 13 := by rw [j2.1, r1]
    refine lp_record (q := B0 + 13 * a) (g := zup g nx (some (B0 + 13 * a))) (by omega) (by omega) h3' ⟨?_, ?_⟩ hnx hsz (shD_of (rDt_fr j1 hf3 (by omega))) (rDt_fr (rDt_frA hD j2 (by omega)) hf3 (by omega)) hok (fun h' q1 q2 q3 q4 q5 q6 => ?_)
    · rw [hf3.2.2 _ (by omega)]; exact r2'
    · rw [← hh]
      simp (disch := omega) only [zgt_u, zgt_a, if_pos, if_neg, if_true, if_false, ite_true, ite_false]
    have hold : ∀ k, k < B0 + 13 * a → k ≠ hb → k ≠ hb + 1 → zgt h' k = zgt h k := fun k e1 e2 e3 => (q4 k (by omega) e2).trans ((hf3.2.2 k (by omega)).trans (j2.2.2 k (by omega)))
    refine hQ h' (a + 1) (fun i => if i = nx then some a else o i) (fun k => if k = a then S else D k) a ⟨?_, ⟨_, q3, fun i e1 e2 => ?_⟩, ⟨gi, (hold im (by omega) h5'.1 h5'.2).trans r5, fun i e1 e2 => ?_⟩, fun k hk => ?_, fun i k hik => ?_, fun i i' k e1 e2 => ?_⟩ q2 (if_pos rfl) (if_pos rfl) (fun i hi => if_neg hi) (fun i k hi hk => if_neg (by have := r8 i k hk; omega)) (fun k e1 e2 e3 => hold k (by omega) e2 e3) (by rw [q6, hf3.2.1, j2.2.1]; omega) (by omega)
    · rw [q5, hf3.1, b2]; omega
    · dsimp only
      by_cases hi : i = nx
      · rw [hi, zup_s, if_pos rfl]; rfl
      · rw [zup_n hi, if_neg hi]; exact r4 i e1 e2
    · dsimp only
      rw [if_neg (by omega)]; exact r6 i e1 e2
    · by_cases hk2 : k = a
      · subst hk2
        simp only [if_true]
        exact ⟨q1, hok⟩
      · simp only [if_neg hk2]
        have hd := (r7 k (by omega)).1
        refine ⟨?_, (r7 k (by omega)).2⟩
        have hfr : ∀ c, B0 + 13 * k ≤ c → c < B0 + 13 * k + 13 → zgt h' c = zgt h c := fun c hc1 hc2 => hold c (by omega) (by omega) (by omega)
        obtain ⟨e0, ⟨G, C, W, e1⟩, ⟨L0, ⟨G0, C0, W0, e2⟩, e2'⟩, ⟨L1, ⟨G1, C1, W1, e3⟩, e3'⟩⟩ := hd
        refine ⟨by rw [hfr _ (by omega) (by omega)]; exact e0, ⟨G, C, W, ?_⟩, ⟨L0, ⟨G0, C0, W0, ?_⟩, e2'⟩, ⟨L1, ⟨G1, C1, W1, ?_⟩, e3'⟩⟩
        · rw [hfr _ (by omega) (by omega), hfr _ (by omega) (by omega), hfr _ (by omega) (by omega), hfr _ (by omega) (by omega)]; exact e1
        · rw [hfr _ (by omega) (by omega), hfr _ (by omega) (by omega), hfr _ (by omega) (by omega), hfr _ (by omega) (by omega)]; exact e2
        · rw [hfr _ (by omega) (by omega), hfr _ (by omega) (by omega), hfr _ (by omega) (by omega), hfr _ (by omega) (by omega)]; exact e3
    · dsimp only at hik
      split at hik
      · cases hik; omega
      · have := r8 i k hik; omega
    · dsimp only at e1 e2
      split at e1
      · cases e1
        split at e2
        · omega
        · have := r8 i' _ e2; omega
      · split at e2
        · cases e2
          have := r8 i _ e1; omega
        · exact r9 i i' k e1 e2
theorem s_restore {j : Nat} (h1' : hb + 2 ≤ B0) (h2' : pb + 13 ≤ B0) (h3' : hb + 2 ≤ pb ∨ pb + 13 ≤ hb) (h4' : im < B0) (h5' : im ≠ hb ∧ im ≠ hb + 1 ∧ (im < pb ∨ pb + 13 ≤ im)) (hR : rSt h B0 a hb im nx sz o D) (hnx : 0 ≤ nx ∧ nx < 8) (hsz : 0 < sz ∧ sz ≤ 8) (hD : rDt h pb S) (hj : o (if 0 < nx then nx - 1 else 7) = some j)
    (hQ : ∀ h', rSt h' B0 a hb im (if 0 < nx then nx - 1 else 7) (sz - 1) o D → rDt h' pb (D j) → (∀ k, k < B0 → k ≠ hb → (k < pb ∨ pb + 13 ≤ k) → zgt h' k = zgt h k) → h'.2.1 = h.2.1 → Q none h') : zca sc 13 [.inr (.inl (some hb)), .inr (.inl (some pb))] h Q := by
  obtain ⟨r1, ⟨g, ⟨r2, r3⟩, r4⟩, ⟨gi, r5, r6⟩, r7, r8, r9⟩ := hR
  have hja := r8 _ j hj
  obtain ⟨d1, d2⟩ := r7 j hja
  generalize hnn : (if 0 < nx then nx - 1 else 7) = nn at hj hQ
  have hnn2 : 0 ≤ nn ∧ nn < 8 := by rw [← hnn]; split <;> omega
  have hg := r4 nn hnn2.1 hnn2.2
  rw [hj] at hg
  have hg : g nn = some (B0 + 13 * j) := hg
  have key : ∀ h1, zgt h1 hb = .inl (1, [.inr (.inl (some (hb + 1))), .inl nn, .inl (sz - 1)]) → fr h h1 hb 1 → ∀ l2, zwp sc 13 21 [some (.inr (.inl (some hb))), some (.inr (.inl (some pb))), l2] [] h1 Q := by
    intro h1 g1 hf l2
    have r31 : zgt h1 (hb + 1) = _ := (hf.2.2 (hb + 1) (by omega)).trans r3
    have d11 := rDt_fr d1 hf (by omega)
    have hD1 := rDt_fr hD hf (by omega)
    simp (disch := omega) only [e_13, w_13_0, w_13_1, w_13_2, w_13_3, w_13_4, w_13_5, w_13_6, w_13_7, w_13_8, w_13_9, w_13_10, w_13_11, w_13_12, w_13_13, w_13_14, w_13_15, w_13_16, w_13_17, w_13_18, w_13_19, w_13_20, w_13_21, w_13_22, w_13_23, w_13_24, w_13_25, w_13_26, w_13_27, w_13_28n, w_13_28s, w_13_29, w_13_30, w_13_31, w_13_32, getK, putK, ialK, iasK, aalK, aasK, alnK, zgt_u, zgt_a, Option.toList_some, Option.toList_none, List.cons_append, List.nil_append, List.map_cons, List.map_nil, List.replicate, ite_true, ite_false, if_true, if_false, List.getElem?_cons_zero, List.getElem?_cons_succ, List.set_cons_zero, List.set_cons_succ, true_and, and_true, beq_self_eq_true, zite, Int.toNat_natCast, if_pos, if_neg, zwr_id, zand, g1, r31, hg, rDt_rc hD1]
    refine s_copy0 (Or.inr (by omega)) (shD_of hD1) d11 d2 (fun h2 k1 k2 => ?_)
    simp (disch := omega) only [e_13, w_13_0, w_13_1, w_13_2, w_13_3, w_13_4, w_13_5, w_13_6, w_13_7, w_13_8, w_13_9, w_13_10, w_13_11, w_13_12, w_13_13, w_13_14, w_13_15, w_13_16, w_13_17, w_13_18, w_13_19, w_13_20, w_13_21, w_13_22, w_13_23, w_13_24, w_13_25, w_13_26, w_13_27, w_13_28n, w_13_28s, w_13_29, w_13_30, w_13_31, w_13_32, getK, putK, ialK, iasK, aalK, aasK, alnK, zgt_u, zgt_a, Option.toList_some, Option.toList_none, List.cons_append, List.nil_append, List.map_cons, List.map_nil, List.replicate, ite_true, ite_false, if_true, if_false, List.getElem?_cons_zero, List.getElem?_cons_succ, List.set_cons_zero, List.set_cons_succ, true_and, and_true, beq_self_eq_true, zite, Int.toNat_natCast, if_pos, if_neg, zwr_id, zand]
    have hold : ∀ k, k ≠ hb → (k < pb ∨ pb + 13 ≤ k) → zgt h2 k = zgt h k := fun k e1 e2 => (k2.2.2 k e2).trans (hf.2.2 k (by omega))
    refine hQ h2 ⟨by rw [k2.1, hf.1]; exact r1, ⟨g, ⟨(k2.2.2 hb (by omega)).trans g1, (k2.2.2 (hb + 1) (by omega)).trans r31⟩, r4⟩, ⟨gi, (hold im h5'.1 h5'.2.2).trans r5, r6⟩, fun k hk => ⟨rDt_fr (rDt_fr (r7 k hk).1 hf (by omega)) k2 (by omega), (r7 k hk).2⟩, r8, r9⟩ k1 (fun k e1 e2 e3 => hold k e2 e3) (by rw [k2.2.1, hf.2.1])
  by_cases c : 0 < nx
  · rw [if_pos c] at hnn
    simp (disch := omega) only [e_13, w_13_0, w_13_1, w_13_2, w_13_3, w_13_4, w_13_5, w_13_6, w_13_7, w_13_8, w_13_9, w_13_10, w_13_11, w_13_12, w_13_13, w_13_14, w_13_15, w_13_16, w_13_17, w_13_18, w_13_19, w_13_20, getK, putK, ialK, iasK, aalK, aasK, alnK, zgt_u, zgt_a, Option.toList_some, Option.toList_none, List.cons_append, List.nil_append, List.map_cons, List.map_nil, List.replicate, ite_true, ite_false, if_true, if_false, List.getElem?_cons_zero, List.getElem?_cons_succ, List.set_cons_zero, List.set_cons_succ, true_and, and_true, beq_self_eq_true, zite, Int.toNat_natCast, if_pos, if_neg, zwr_id, zand, r2]
    generalize hh : zuH _ hb _ = h1
    exact key h1 (by rw [← hh, ← hnn]; simp (disch := omega) only [zgt_u, zgt_a, if_pos, if_neg, if_true, if_false, ite_true, ite_false]) (by rw [← hh]; exact fr_u (fr_u fr_rf (Nat.le_refl _) (by omega)) (Nat.le_refl _) (by omega)) none
  · rw [if_neg c] at hnn
    simp (disch := omega) only [e_13, w_13_0, w_13_1, w_13_2, w_13_3, w_13_4, w_13_5, w_13_6, w_13_7, w_13_8, w_13_9, w_13_10, w_13_11, w_13_12, w_13_13, w_13_14, w_13_15, w_13_16, w_13_17, w_13_18, w_13_19, w_13_20, getK, putK, ialK, iasK, aalK, aasK, alnK, zgt_u, zgt_a, Option.toList_some, Option.toList_none, List.cons_append, List.nil_append, List.map_cons, List.map_nil, List.replicate, ite_true, ite_false, if_true, if_false, List.getElem?_cons_zero, List.getElem?_cons_succ, List.set_cons_zero, List.set_cons_succ, true_and, and_true, beq_self_eq_true, zite, Int.toNat_natCast, if_pos, if_neg, zwr_id, zand, r2]
    generalize hh : zuH _ hb _ = h1
    exact key h1 (by rw [← hh, ← hnn]; simp (disch := omega) only [zgt_u, zgt_a, if_pos, if_neg, if_true, if_false, ite_true, ite_false]) (by rw [← hh]; exact fr_u (fr_u fr_rf (Nat.le_refl _) (by omega)) (Nat.le_refl _) (by omega)) none
end
