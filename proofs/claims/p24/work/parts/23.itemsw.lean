/-! ITEMS CHANGED -/
def ltI (a b : zI) : Prop := a.1 < b.1 ∨ (a.1 = b.1 ∧ (a.2.1 < b.2.1 ∨ (a.2.1 = b.2.1 ∧ a.2.2 < b.2.2)))
theorem ltI_dec (a b : zI) : ltI a b ∨ ¬ ltI a b := Classical.em _
def srtI (L : List zI) : Prop := L.Pairwise (fun a b => ¬ ltI b a)
theorem ltI_tr {a b c : zI} (h1 : ltI a b) (h2 : ltI b c) : ltI a c := by unfold ltI at *; omega
theorem ltI_tr2 {a b c : zI} (h1 : ¬ ltI b a) (h2 : ltI b c) : ltI a c := by unfold ltI at *; omega
theorem ltI_as {a b : zI} (h1 : ltI a b) : ¬ ltI b a := by unfold ltI at *; omega
theorem nltI_tr {a b c : zI} (h1 : ¬ ltI b a) (h2 : ¬ ltI c b) : ¬ ltI c a := by unfold ltI at *; omega
theorem rI_app {G C W : Int → Int} : ∀ {L1 L2 : List zI} {k : Int}, rI G C W k (L1 ++ L2) ↔ rI G C W k L1 ∧ rI G C W (k + L1.length) L2
  | [], L2, k => by simp [rI]
  | x :: L1, L2, k => by
    show (_ ∧ _ ∧ _ ∧ rI G C W (k + 1) (L1 ++ L2)) ↔ (_ ∧ _ ∧ _ ∧ rI G C W (k + 1) L1) ∧ _
    rw [rI_app, List.length_cons, show k + 1 + (L1.length : Int) = k + ((L1.length + 1 : Nat) : Int) by omega]
    constructor
    · rintro ⟨a, b, c, d, e⟩; exact ⟨⟨a, b, c, d⟩, e⟩
    · rintro ⟨⟨a, b, c, d⟩, e⟩; exact ⟨a, b, c, d, e⟩
theorem rI_ext {G C W G' C' W' : Int → Int} : ∀ {L : List zI} {k : Int}, rI G C W k L → (∀ i, k ≤ i → i < k + L.length → G' i = G i ∧ C' i = C i ∧ W' i = W i) → rI G' C' W' k L
  | [], _, _, _ => trivial
  | x :: L, k, h, he => by
    obtain ⟨a, b, c, d⟩ := h
    simp only [List.length_cons] at he
    obtain ⟨e1, e2, e3⟩ := he k (Int.le_refl _) (by omega)
    exact ⟨by rw [e1, a], by rw [e2, b], by rw [e3, c], rI_ext d (fun i h1 h2 => he i (by omega) (by omega))⟩
/-- what lies outside a block stays -/
def fr (h h' : zH) (b n : Nat) : Prop := h'.1 = h.1 ∧ h'.2.1 = h.2.1 ∧ ∀ k, k < b ∨ b + n ≤ k → zgt h' k = zgt h k
theorem fr_rf {h : zH} {b n : Nat} : fr h h b n := ⟨rfl, rfl, fun _ _ => rfl⟩
theorem fr_tr {h h1 h2 : zH} {b n : Nat} (a : fr h h1 b n) (c : fr h1 h2 b n) : fr h h2 b n := ⟨c.1.trans a.1, c.2.1.trans a.2.1, fun k hk => (c.2.2 k hk).trans (a.2.2 k hk)⟩
theorem fr_wd {h h1 : zH} {b n b2 n2 : Nat} (a : fr h h1 b n) (h2 : b2 ≤ b) (h3 : b + n ≤ b2 + n2) : fr h h1 b2 n2 := ⟨a.1, a.2.1, fun k hk => a.2.2 k (by omega)⟩
theorem fr_u {h h1 : zH} {b n k : Nat} {c : zC} (a : fr h h1 b n) (h1' : b ≤ k) (h2 : k < b + n) : fr h (zuH h1 k c) b n := ⟨a.1, a.2.1, fun j hj => by rw [zgt_u, if_neg (by omega)]; exact a.2.2 j hj⟩
theorem rIt_fr {h h' : zH} {b n b2 : Nat} {L : List zI} (hI : rIt h b L) (hf : fr h h' b2 n) (hd : b + 4 ≤ b2 ∨ b2 + n ≤ b) : rIt h' b L := by
  obtain ⟨G, C, W, h0, h1, h2, h3, hr⟩ := hI
  refine ⟨G, C, W, ?_, ?_, ?_, ?_, hr⟩
  · rw [hf.2.2 _ (by omega)]; exact h0
  · rw [hf.2.2 _ (by omega)]; exact h1
  · rw [hf.2.2 _ (by omega)]; exact h2
  · rw [hf.2.2 _ (by omega)]; exact h3
/-- a block of items, its arrays named -/
def rA (h : zH) (b : Nat) (n : Int) (G C W : Int → Int) : Prop := zgt h b = .inl (2, [.inr (.inl (some (b + 1))), .inr (.inl (some (b + 2))), .inr (.inl (some (b + 3))), .inl n]) ∧ zgt h (b + 1) = .inr (.inl (48, G)) ∧ zgt h (b + 2) = .inr (.inl (48, C)) ∧ zgt h (b + 3) = .inr (.inl (48, W))
def swF (G : Int → Int) (i j : Int) : Int → Int := zup (zup G i (G j)) j (G i)
theorem swF_i {G : Int → Int} {i j : Int} (h : i ≠ j) : swF G i j i = G j := by unfold swF; rw [zup_n h, zup_s]
theorem swF_j {G : Int → Int} {i j : Int} : swF G i j j = G i := by unfold swF; rw [zup_s]
theorem swF_n {G : Int → Int} {i j k : Int} (h : k ≠ i) (h2 : k ≠ j) : swF G i j k = G k := by unfold swF; rw [zup_n h2, zup_n h]
section
variable {sc : Nat × (Int → Int)} {h : zH} {Q : Option zV → zH → Prop} {b : Nat} {L : List zI}
theorem s_makeEmpty (hI : rIt h b L) (hQ : ∀ h', rIt h' b [] → fr h h' b 4 → Q none h') : zca sc 24 [.inr (.inl (some b))] h Q := by
  obtain ⟨G, C, W, h0, h1, h2, h3, hr⟩ := hI
  simp (disch := omega) only [e_24, w_24_0, w_24_1, w_24_2, w_24_3, getK, putK, ialK, iasK, aalK, aasK, alnK, zgt_u, zgt_a, Option.toList_some, Option.toList_none, List.cons_append, List.nil_append, List.map_cons, List.map_nil, List.replicate, ite_true, ite_false, if_true, if_false, List.getElem?_cons_zero, List.getElem?_cons_succ, List.set_cons_zero, List.set_cons_succ, true_and, and_true, beq_self_eq_true, zite, Int.toNat_natCast, if_pos, if_neg, zwr_id, zand, h0]
  refine hQ _ ⟨G, C, W, ?_, ?_, ?_, ?_, trivial⟩ (fr_u fr_rf (by omega) (by omega))
  · rw [zgt_u, if_pos rfl]; rfl
  · rw [zgt_u, if_neg (by omega)]; exact h1
  · rw [zgt_u, if_neg (by omega)]; exact h2
  · rw [zgt_u, if_neg (by omega)]; exact h3
theorem s_swap {n i j : Int} {G C W : Int → Int} (hA : rA h b n G C W) (hi : 0 ≤ i ∧ i < 48) (hj : 0 ≤ j ∧ j < 48) (hQ : ∀ h', rA h' b n (swF G i j) (swF C i j) (swF W i j) → fr h h' b 4 → Q none h') : zca sc 32 [.inr (.inl (some b)), .inl i, .inl j] h Q := by
  obtain ⟨h0, h1, h2, h3⟩ := hA
  simp (disch := omega) only [e_32, w_32_0, w_32_1, w_32_2, w_32_3, w_32_4, w_32_5, w_32_6, w_32_7, w_32_8, w_32_9, w_32_10, w_32_11, w_32_12, w_32_13, w_32_14, w_32_15, w_32_16, w_32_17, w_32_18, w_32_19, w_32_20, w_32_21, w_32_22, w_32_23, w_32_24, w_32_25, w_32_26, w_32_27, w_32_28, w_32_29, w_32_30, w_32_31, w_32_32, w_32_33, w_32_34, w_32_35, w_32_36, w_32_37, w_32_38, w_32_39, w_32_40, w_32_41, w_32_42, w_32_43, w_32_44, w_32_45, w_32_46, w_32_47, w_32_48, w_32_49, w_32_50, w_32_51, w_32_52, w_32_53, w_32_54, getK, putK, ialK, iasK, aalK, aasK, alnK, zgt_u, zgt_a, Option.toList_some, Option.toList_none, List.cons_append, List.nil_append, List.map_cons, List.map_nil, List.replicate, ite_true, ite_false, if_true, if_false, List.getElem?_cons_zero, List.getElem?_cons_succ, List.set_cons_zero, List.set_cons_succ, true_and, and_true, beq_self_eq_true, zite, Int.toNat_natCast, if_pos, if_neg, zwr_id, zand, h0, h1, h2, h3, Nat.reduceEqDiff, Nat.left_eq_add, Nat.add_left_cancel_iff]
  refine hQ _ ⟨?_, ?_, ?_, ?_⟩ (fr_u (fr_u (fr_u (fr_u (fr_u (fr_u fr_rf (by omega) (by omega)) (by omega) (by omega)) (by omega) (by omega)) (by omega) (by omega)) (by omega) (by omega)) (by omega) (by omega))
  · simp (disch := omega) only [zgt_u, if_pos, if_neg, h0]
  · simp (disch := omega) only [zgt_u, if_pos, if_neg]; rfl
  · simp (disch := omega) only [zgt_u, if_pos, if_neg]; rfl
  · simp (disch := omega) only [zgt_u, if_pos, if_neg]; rfl
theorem s_isLess {n i j : Int} {G C W : Int → Int} {x y : zI} (hA : rA h b n G C W) (hi : 0 ≤ i ∧ i < 48) (hj : 0 ≤ j ∧ j < 48) (hx : G i = x.1 ∧ C i = x.2.1 ∧ W i = x.2.2) (hy : G j = y.1 ∧ C j = y.2.1 ∧ W j = y.2.2) [Decidable (ltI x y)] : zca sc 31 [.inr (.inl (some b)), .inl i, .inl j] h Q = Q (some (.inl (zb (ltI x y)))) h := by
  obtain ⟨h0, h1, h2, h3⟩ := hA
  obtain ⟨x1, x2, x3⟩ := hx
  obtain ⟨y1, y2, y3⟩ := hy
  have e : zb (ltI x y) = if x.1 = y.1 then (if x.2.1 = y.2.1 then (if x.2.2 < y.2.2 then 1 else 0) else (if x.2.1 < y.2.1 then 1 else 0)) else (if x.1 < y.1 then 1 else 0) := by
    by_cases hl : ltI x y
    · rw [zb_t hl]
      unfold ltI at hl
      (repeat' split) <;> first | rfl | (exfalso; omega)
    · rw [zb_f hl]
      unfold ltI at hl
      (repeat' split) <;> first | rfl | (exfalso; omega)
  rw [e]
  by_cases c1 : x.1 = y.1
  · by_cases c2 : x.2.1 = y.2.1
    · by_cases c3 : x.2.2 < y.2.2
      · simp (disch := omega) only [e_31, w_31_0, w_31_1, w_31_2, w_31_3, w_31_4, w_31_5, w_31_6, w_31_7, w_31_8, w_31_9, w_31_10, w_31_11, w_31_12, w_31_13, w_31_14, w_31_15, w_31_16, w_31_17, w_31_18, w_31_19, w_31_20, w_31_21, w_31_22, w_31_23, w_31_24, w_31_25, w_31_26, w_31_27, w_31_28, w_31_29, w_31_30, w_31_31, w_31_32, w_31_33, w_31_34, w_31_35, w_31_36, w_31_37, w_31_38, w_31_39, w_31_40, w_31_41, w_31_42, w_31_43, w_31_44, w_31_45, w_31_46, w_31_47, w_31_48, w_31_49, w_31_50, w_31_51, w_31_52, w_31_53, w_31_54, w_31_55, w_31_56, getK, putK, ialK, iasK, aalK, aasK, alnK, zgt_u, zgt_a, Option.toList_some, Option.toList_none, List.cons_append, List.nil_append, List.map_cons, List.map_nil, List.replicate, ite_true, ite_false, if_true, if_false, List.getElem?_cons_zero, List.getElem?_cons_succ, List.set_cons_zero, List.set_cons_succ, true_and, and_true, beq_self_eq_true, zite, Int.toNat_natCast, if_pos, if_neg, zwr_id, zand, h0, h1, h2, h3, x1, x2, x3, y1, y2, y3, true_or, or_true]
      · simp (disch := omega) only [e_31, w_31_0, w_31_1, w_31_2, w_31_3, w_31_4, w_31_5, w_31_6, w_31_7, w_31_8, w_31_9, w_31_10, w_31_11, w_31_12, w_31_13, w_31_14, w_31_15, w_31_16, w_31_17, w_31_18, w_31_19, w_31_20, w_31_21, w_31_22, w_31_23, w_31_24, w_31_25, w_31_26, w_31_27, w_31_28, w_31_29, w_31_30, w_31_31, w_31_32, w_31_33, w_31_34, w_31_35, w_31_36, w_31_37, w_31_38, w_31_39, w_31_40, w_31_41, w_31_42, w_31_43, w_31_44, w_31_45, w_31_46, w_31_47, w_31_48, w_31_49, w_31_50, w_31_51, w_31_52, w_31_53, w_31_54, w_31_55, w_31_56, getK, putK, ialK, iasK, aalK, aasK, alnK, zgt_u, zgt_a, Option.toList_some, Option.toList_none, List.cons_append, List.nil_append, List.map_cons, List.map_nil, List.replicate, ite_true, ite_false, if_true, if_false, List.getElem?_cons_zero, List.getElem?_cons_succ, List.set_cons_zero, List.set_cons_succ, true_and, and_true, beq_self_eq_true, zite, Int.toNat_natCast, if_pos, if_neg, zwr_id, zand, h0, h1, h2, h3, x1, x2, x3, y1, y2, y3, true_or, or_true]
    · by_cases c3 : x.2.1 < y.2.1
      · simp (disch := omega) only [e_31, w_31_0, w_31_1, w_31_2, w_31_3, w_31_4, w_31_5, w_31_6, w_31_7, w_31_8, w_31_9, w_31_10, w_31_11, w_31_12, w_31_13, w_31_14, w_31_15, w_31_16, w_31_17, w_31_18, w_31_19, w_31_20, w_31_21, w_31_22, w_31_23, w_31_24, w_31_25, w_31_26, w_31_27, w_31_28, w_31_29, w_31_30, w_31_31, w_31_32, w_31_33, w_31_34, w_31_35, w_31_36, w_31_37, w_31_38, w_31_39, w_31_40, w_31_41, w_31_42, w_31_43, w_31_44, w_31_45, w_31_46, w_31_47, w_31_48, w_31_49, w_31_50, w_31_51, w_31_52, w_31_53, w_31_54, w_31_55, w_31_56, getK, putK, ialK, iasK, aalK, aasK, alnK, zgt_u, zgt_a, Option.toList_some, Option.toList_none, List.cons_append, List.nil_append, List.map_cons, List.map_nil, List.replicate, ite_true, ite_false, if_true, if_false, List.getElem?_cons_zero, List.getElem?_cons_succ, List.set_cons_zero, List.set_cons_succ, true_and, and_true, beq_self_eq_true, zite, Int.toNat_natCast, if_pos, if_neg, zwr_id, zand, h0, h1, h2, h3, x1, x2, x3, y1, y2, y3, true_or, or_true]
      · simp (disch := omega) only [e_31, w_31_0, w_31_1, w_31_2, w_31_3, w_31_4, w_31_5, w_31_6, w_31_7, w_31_8, w_31_9, w_31_10, w_31_11, w_31_12, w_31_13, w_31_14, w_31_15, w_31_16, w_31_17, w_31_18, w_31_19, w_31_20, w_31_21, w_31_22, w_31_23, w_31_24, w_31_25, w_31_26, w_31_27, w_31_28, w_31_29, w_31_30, w_31_31, w_31_32, w_31_33, w_31_34, w_31_35, w_31_36, w_31_37, w_31_38, w_31_39, w_31_40, w_31_41, w_31_42, w_31_43, w_31_44, w_31_45, w_31_46, w_31_47, w_31_48, w_31_49, w_31_50, w_31_51, w_31_52, w_31_53, w_31_54, w_31_55, w_31_56, getK, putK, ialK, iasK, aalK, aasK, alnK, zgt_u, zgt_a, Option.toList_some, Option.toList_none, List.cons_append, List.nil_append, List.map_cons, List.map_nil, List.replicate, ite_true, ite_false, if_true, if_false, List.getElem?_cons_zero, List.getElem?_cons_succ, List.set_cons_zero, List.set_cons_succ, true_and, and_true, beq_self_eq_true, zite, Int.toNat_natCast, if_pos, if_neg, zwr_id, zand, h0, h1, h2, h3, x1, x2, x3, y1, y2, y3, true_or, or_true]
  · by_cases c3 : x.1 < y.1
    · simp (disch := omega) only [e_31, w_31_0, w_31_1, w_31_2, w_31_3, w_31_4, w_31_5, w_31_6, w_31_7, w_31_8, w_31_9, w_31_10, w_31_11, w_31_12, w_31_13, w_31_14, w_31_15, w_31_16, w_31_17, w_31_18, w_31_19, w_31_20, w_31_21, w_31_22, w_31_23, w_31_24, w_31_25, w_31_26, w_31_27, w_31_28, w_31_29, w_31_30, w_31_31, w_31_32, w_31_33, w_31_34, w_31_35, w_31_36, w_31_37, w_31_38, w_31_39, w_31_40, w_31_41, w_31_42, w_31_43, w_31_44, w_31_45, w_31_46, w_31_47, w_31_48, w_31_49, w_31_50, w_31_51, w_31_52, w_31_53, w_31_54, w_31_55, w_31_56, getK, putK, ialK, iasK, aalK, aasK, alnK, zgt_u, zgt_a, Option.toList_some, Option.toList_none, List.cons_append, List.nil_append, List.map_cons, List.map_nil, List.replicate, ite_true, ite_false, if_true, if_false, List.getElem?_cons_zero, List.getElem?_cons_succ, List.set_cons_zero, List.set_cons_succ, true_and, and_true, beq_self_eq_true, zite, Int.toNat_natCast, if_pos, if_neg, zwr_id, zand, h0, h1, h2, h3, x1, x2, x3, y1, y2, y3, true_or, or_true]
    · simp (disch := omega) only [e_31, w_31_0, w_31_1, w_31_2, w_31_3, w_31_4, w_31_5, w_31_6, w_31_7, w_31_8, w_31_9, w_31_10, w_31_11, w_31_12, w_31_13, w_31_14, w_31_15, w_31_16, w_31_17, w_31_18, w_31_19, w_31_20, w_31_21, w_31_22, w_31_23, w_31_24, w_31_25, w_31_26, w_31_27, w_31_28, w_31_29, w_31_30, w_31_31, w_31_32, w_31_33, w_31_34, w_31_35, w_31_36, w_31_37, w_31_38, w_31_39, w_31_40, w_31_41, w_31_42, w_31_43, w_31_44, w_31_45, w_31_46, w_31_47, w_31_48, w_31_49, w_31_50, w_31_51, w_31_52, w_31_53, w_31_54, w_31_55, w_31_56, getK, putK, ialK, iasK, aalK, aasK, alnK, zgt_u, zgt_a, Option.toList_some, Option.toList_none, List.cons_append, List.nil_append, List.map_cons, List.map_nil, List.replicate, ite_true, ite_false, if_true, if_false, List.getElem?_cons_zero, List.getElem?_cons_succ, List.set_cons_zero, List.set_cons_succ, true_and, and_true, beq_self_eq_true, zite, Int.toNat_natCast, if_pos, if_neg, zwr_id, zand, h0, h1, h2, h3, x1, x2, x3, y1, y2, y3, true_or, or_true]
theorem rI_mid {G C W : Int → Int} {P S : List zI} {x : zI} (h : rI G C W 0 (P ++ x :: S)) : G P.length = x.1 ∧ C P.length = x.2.1 ∧ W P.length = x.2.2 := by
  have := (rI_app.mp h).2
  rw [Int.zero_add] at this
  exact ⟨this.1, this.2.1, this.2.2.1⟩
/-- two neighbours change places -/
theorem rI_sw {G C W : Int → Int} {P S : List zI} {x y : zI} {i j : Int} (h : rI G C W 0 (P ++ x :: y :: S)) (hij : (i = P.length ∧ j = P.length + 1) ∨ (j = P.length ∧ i = P.length + 1)) : rI (swF G i j) (swF C i j) (swF W i j) 0 (P ++ y :: x :: S) := by
  obtain ⟨r1, a1, a2, a3, b1, b2, b3, r2⟩ := rI_app.mp h
  rw [Int.zero_add] at *
  refine rI_app.mpr ⟨rI_ext r1 (fun k h1 h2 => ?_), ?_⟩
  · rw [swF_n (by omega) (by omega), swF_n (by omega) (by omega), swF_n (by omega) (by omega)]
    exact ⟨rfl, rfl, rfl⟩
  rw [Int.zero_add]
  rcases hij with ⟨rfl, rfl⟩ | ⟨rfl, rfl⟩
  · refine ⟨?_, ?_, ?_, ?_, ?_, ?_, ?_⟩
    · rw [swF_i (by omega), b1]
    · rw [swF_i (by omega), b2]
    · rw [swF_i (by omega), b3]
    · rw [swF_j, a1]
    · rw [swF_j, a2]
    · rw [swF_j, a3]
    · refine rI_ext r2 (fun k h1 h2 => ?_)
      rw [swF_n (by omega) (by omega), swF_n (by omega) (by omega), swF_n (by omega) (by omega)]
      exact ⟨rfl, rfl, rfl⟩
  · refine ⟨?_, ?_, ?_, ?_, ?_, ?_, ?_⟩
    · rw [swF_j, b1]
    · rw [swF_j, b2]
    · rw [swF_j, b3]
    · rw [swF_i (by omega), a1]
    · rw [swF_i (by omega), a2]
    · rw [swF_i (by omega), a3]
    · refine rI_ext r2 (fun k h1 h2 => ?_)
      rw [swF_n (by omega) (by omega), swF_n (by omega) (by omega), swF_n (by omega) (by omega)]
      exact ⟨rfl, rfl, rfl⟩
def rB (h : zH) (b : Nat) (n : Int) (L : List zI) : Prop := ∃ G C W, rA h b n G C W ∧ rI G C W 0 L
theorem rB_It {L : List zI} : rIt h b L ↔ rB h b L.length L := by
  constructor
  · rintro ⟨G, C, W, h0, h1, h2, h3, hr⟩; exact ⟨G, C, W, ⟨h0, h1, h2, h3⟩, hr⟩
  · rintro ⟨G, C, W, ⟨h0, h1, h2, h3⟩, hr⟩; exact ⟨G, C, W, h0, h1, h2, h3, hr⟩
theorem rA_rc {n : Int} {G C W : Int → Int} {as : List zV} (hA : rA h b n G C W) : zrecv h 2 (.inr (.inl (some b)) :: as) = true := zrc hA.1
/-- moving an item down among the items before it, which are in order -/
theorem lp_moveDown {n : Int} (l1 : Option zV) : ∀ (k : Nat) (h : zH) (P P2 S : List zI) (x : zI), P.length = k → rB h b n (P ++ x :: (P2 ++ S)) → (P.length : Int) + 1 + P2.length + S.length ≤ 48 → (P.length : Int) < n → srtI (P ++ P2) → (∀ y ∈ P2, ltI x y) → (∀ h' P', rB h' b n (P' ++ S) → srtI P' → P'.Perm (x :: (P ++ P2)) → fr h h' b 4 → Q none h') → zwp sc 30 2 [some (.inr (.inl (some b))), l1, some (.inl k)] [] h Q := by
  intro k
  induction k with
  | zero =>
    intro h P P2 S x hk hB hn hln hs hx hQ
    have : P = [] := List.length_eq_zero_iff.mp hk
    subst this
    rw [w_30_2]
    simp (disch := omega) only [e_30, w_30_0, w_30_1, w_30_3, w_30_4, w_30_5, w_30_6, w_30_7, w_30_8, w_30_9, w_30_10, w_30_11, w_30_12, w_30_13, w_30_14, w_30_15, w_30_16, w_30_17, w_30_18, w_30_19, w_30_20, w_30_21, w_30_22, w_30_23, getK, putK, ialK, iasK, aalK, aasK, alnK, zgt_u, zgt_a, Option.toList_some, Option.toList_none, List.cons_append, List.nil_append, List.map_cons, List.map_nil, List.replicate, ite_true, ite_false, if_true, if_false, List.getElem?_cons_zero, List.getElem?_cons_succ, List.set_cons_zero, List.set_cons_succ, true_and, and_true, beq_self_eq_true, zite, Int.toNat_natCast, if_pos, if_neg, zwr_id, zand]
    refine hQ h (x :: P2) hB ?_ (List.Perm.refl _) fr_rf
    exact List.pairwise_cons.mpr ⟨fun y hy => ltI_as (hx y hy), hs⟩
  | succ k ih =>
    intro h P P2 S x hk hB hn hln hs hx hQ
    obtain ⟨P1, y, rfl⟩ : ∃ P1 y, P = P1 ++ [y] := ⟨P.dropLast, P.getLast (by intro q; rw [q] at hk; simp at hk), (List.dropLast_concat_getLast _).symm⟩
    obtain ⟨G, C, W, hA, hr⟩ := hB
    simp only [List.length_append, List.length_cons, List.length_nil] at hk hn hln
    have hr' : rI G C W 0 (P1 ++ y :: x :: (P2 ++ S)) := by simpa using hr
    have ey := rI_mid hr'
    have ex := rI_mid (P := P1 ++ [y]) hr
    simp only [List.length_append, List.length_cons, List.length_nil, show ((P1.length + (0 + 1) : Nat) : Int) = (k : Int) + 1 by omega, show (P1.length : Int) = k by omega] at ex ey
    have hcl := Classical.propDecidable (ltI x y)
    rw [w_30_2]
    have hn2 : (k : Int) + 1 < n := by omega
    have h00 := hA.1
    simp (disch := omega) only [e_30, w_30_0, w_30_1, w_30_3, w_30_4, w_30_5, w_30_6, w_30_7, w_30_8, w_30_9, w_30_10, w_30_11, w_30_12, w_30_13, w_30_14, w_30_15, w_30_16, w_30_17, w_30_18, w_30_19, w_30_20, w_30_21, w_30_22, w_30_23, getK, putK, ialK, iasK, aalK, aasK, alnK, zgt_u, zgt_a, Option.toList_some, Option.toList_none, List.cons_append, List.nil_append, List.map_cons, List.map_nil, List.replicate, ite_true, ite_false, if_true, if_false, List.getElem?_cons_zero, List.getElem?_cons_succ, List.set_cons_zero, List.set_cons_succ, true_and, and_true, beq_self_eq_true, zite, Int.toNat_natCast, if_pos, if_neg, zwr_id, zand, rA_rc hA, h00, s_isLess hA (i := (k : Int) + 1) (j := k) (by omega) (by omega) ex ey, Int.natCast_add, Int.natCast_one, Int.add_sub_cancel, zb_eq]
    have hs' := List.pairwise_append.mp hs
    have hs1 := List.pairwise_append.mp hs'.1
    split
    next c =>
      refine hQ h (P1 ++ y :: x :: P2) ⟨G, C, W, hA, by simpa using hr'⟩ ?_ ?_ fr_rf
      · refine List.pairwise_append.mpr ⟨hs1.1, ?_, fun a ha b hb => ?_⟩
        · refine List.pairwise_cons.mpr ⟨fun z hz => ?_, List.pairwise_cons.mpr ⟨fun z hz => ltI_as (hx z hz), hs'.2.1⟩⟩
          rcases List.mem_cons.mp hz with rfl | hz
          · exact c
          · exact hs'.2.2 y (by simp) z hz
        · rcases List.mem_cons.mp hb with rfl | hb
          · exact hs1.2.2 a ha b (by simp)
          · rcases List.mem_cons.mp hb with rfl | hb
            · exact nltI_tr (hs1.2.2 a ha y (by simp)) c
            · exact hs'.2.2 a (by simp [ha]) b hb
      · have e1 : P1 ++ y :: x :: P2 = (P1 ++ [y]) ++ x :: P2 := by simp
        rw [e1]
        exact List.perm_middle
    next c =>
      have c : ltI x y := Classical.not_not.mp c
      refine s_swap hA (by omega) (by omega) (fun h1 hA1 hf1 => ?_)
      rw [show (k : Int) + 1 + -1 = (k : Nat) by omega]
      refine ih h1 P1 (y :: P2) S x (by omega) ⟨_, _, _, hA1, rI_sw hr' (Or.inr ⟨by omega, by omega⟩)⟩ (by simp only [List.length_cons]; omega) (by omega) (by simpa using hs) ?_ (fun h' P' hB' hs2 hp hf => ?_)
      · intro z hz
        rcases List.mem_cons.mp hz with rfl | hz
        · exact c
        · exact hx z hz
      · refine hQ h' P' hB' hs2 (by simpa using hp) (fr_tr hf1 hf)
theorem s_moveDown {n : Int} {P S : List zI} {x : zI} (hB : rB h b n (P ++ x :: S)) (hn : (P.length : Int) + 1 + S.length ≤ 48) (hln : (P.length : Int) < n) (hs : srtI P) (hQ : ∀ h' P', rB h' b n (P' ++ S) → srtI P' → P'.Perm (x :: P) → fr h h' b 4 → Q none h') : zca sc 30 [.inr (.inl (some b)), .inl (P.length : Int)] h Q := by
  simp (disch := omega) only [e_30, w_30_0, w_30_1, w_30_3, w_30_4, w_30_5, w_30_6, w_30_7, w_30_8, w_30_9, w_30_10, w_30_11, w_30_12, w_30_13, w_30_14, w_30_15, w_30_16, w_30_17, w_30_18, w_30_19, w_30_20, w_30_21, w_30_22, w_30_23, getK, putK, ialK, iasK, aalK, aasK, alnK, zgt_u, zgt_a, Option.toList_some, Option.toList_none, List.cons_append, List.nil_append, List.map_cons, List.map_nil, List.replicate, ite_true, ite_false, if_true, if_false, List.getElem?_cons_zero, List.getElem?_cons_succ, List.set_cons_zero, List.set_cons_succ, true_and, and_true, beq_self_eq_true, zite, Int.toNat_natCast, if_pos, if_neg, zwr_id, zand]
  exact lp_moveDown _ P.length h P [] S x rfl hB (by simpa using hn) hln (by simpa using hs) (fun y hy => by cases hy) (fun h' P' a1 a2 a3 a4 => hQ h' P' a1 a2 (by simpa using a3) a4)
/-- an item added to a list in order -/
theorem s_add {x : zI} (hI : rIt h b L) (hL : L.length < 48) (hs : srtI L) (hQ : ∀ h' L', rIt h' b L' → srtI L' → L'.Perm (x :: L) → fr h h' b 4 → Q none h') : zca sc 26 [.inr (.inl (some b)), .inl x.1, .inl x.2.1, .inl x.2.2] h Q := by
  obtain ⟨G, C, W, hA, hr⟩ := rB_It.mp hI
  obtain ⟨h0, h1, h2, h3⟩ := id hA
  simp (disch := omega) only [e_26, w_26_0, w_26_1, w_26_2, w_26_3, w_26_4, w_26_5, w_26_6, w_26_7, w_26_8, w_26_9, w_26_10, w_26_11, w_26_12, w_26_13, w_26_14, w_26_15, w_26_16, w_26_17, w_26_18, w_26_19, w_26_20, w_26_21, w_26_22, w_26_23, w_26_24, w_26_25, w_26_26, w_26_27, w_26_28, w_26_29, w_26_30, w_26_31, w_26_32, w_26_33, w_26_34, w_26_35, getK, putK, ialK, iasK, aalK, aasK, alnK, zgt_u, zgt_a, Option.toList_some, Option.toList_none, List.cons_append, List.nil_append, List.map_cons, List.map_nil, List.replicate, ite_true, ite_false, if_true, if_false, List.getElem?_cons_zero, List.getElem?_cons_succ, List.set_cons_zero, List.set_cons_succ, true_and, and_true, beq_self_eq_true, zite, Int.toNat_natCast, if_pos, if_neg, zwr_id, zand, h0, h1, h2, h3, Nat.add_left_cancel_iff, Nat.reduceEqDiff, Nat.left_eq_add, Nat.add_eq_left, rA_rc hA]
  generalize hh : zuH (zuH (zuH (zuH h (b + 1) _) (b + 2) _) (b + 3) _) b _ = h1'
  have hA1 : rA h1' b (L.length + 1) (zup G L.length x.1) (zup C L.length x.2.1) (zup W L.length x.2.2) := by
    rw [← hh]
    refine ⟨?_, ?_, ?_, ?_⟩
    · simp (disch := omega) only [zgt_u, zgt_a, if_pos, if_neg, if_true, if_false, ite_true, ite_false]
    · simp (disch := omega) only [zgt_u, zgt_a, if_pos, if_neg, if_true, if_false, ite_true, ite_false]
    · simp (disch := omega) only [zgt_u, zgt_a, if_pos, if_neg, if_true, if_false, ite_true, ite_false]
    · simp (disch := omega) only [zgt_u, zgt_a, if_pos, if_neg, if_true, if_false, ite_true, ite_false]
  have hf1 : fr h h1' b 4 := by
    rw [← hh]
    exact fr_u (fr_u (fr_u (fr_u fr_rf (by omega) (by omega)) (by omega) (by omega)) (by omega) (by omega)) (by omega) (by omega)
  have hr1 : rI (zup G L.length x.1) (zup C L.length x.2.1) (zup W L.length x.2.2) 0 (L ++ x :: []) := by
    refine rI_app.mpr ⟨rI_ext hr (fun k h1 h2 => ?_), ?_⟩
    · rw [zup_n (by omega), zup_n (by omega), zup_n (by omega)]
      exact ⟨rfl, rfl, rfl⟩
    · rw [Int.zero_add]
      exact ⟨zup_s _ _ _, zup_s _ _ _, zup_s _ _ _, trivial⟩
  rw [zand (rA_rc hA1), show (L.length : Int) + 1 - 1 = (L.length : Int) by omega]
  refine s_moveDown (P := L) (S := []) ⟨_, _, _, hA1, hr1⟩ (by simp; omega) (by omega) hs (fun h' P' hB hs2 hp hf => ?_)
  simp (disch := omega) only [e_26, w_26_0, w_26_1, w_26_2, w_26_3, w_26_4, w_26_5, w_26_6, w_26_7, w_26_8, w_26_9, w_26_10, w_26_11, w_26_12, w_26_13, w_26_14, w_26_15, w_26_16, w_26_17, w_26_18, w_26_19, w_26_20, w_26_21, w_26_22, w_26_23, w_26_24, w_26_25, w_26_26, w_26_27, w_26_28, w_26_29, w_26_30, w_26_31, w_26_32, w_26_33, w_26_34, w_26_35, getK, putK, ialK, iasK, aalK, aasK, alnK, zgt_u, zgt_a, Option.toList_some, Option.toList_none, List.cons_append, List.nil_append, List.map_cons, List.map_nil, List.replicate, ite_true, ite_false, if_true, if_false, List.getElem?_cons_zero, List.getElem?_cons_succ, List.set_cons_zero, List.set_cons_succ, true_and, and_true, beq_self_eq_true, zite, Int.toNat_natCast, if_pos, if_neg, zwr_id, zand]
  refine hQ h' P' (rB_It.mpr ?_) hs2 hp (fr_tr hf1 hf)
  have := hp.length_eq
  rw [List.append_nil] at hB
  rw [this, List.length_cons]
  exact hB
theorem lp_takeOut {n : Int} (l1 : Option zV) : ∀ (S : List zI) (h : zH) (P : List zI) (x : zI), rB h b n (P ++ x :: S) → (P.length : Int) + 1 + S.length = n → n ≤ 48 → (∀ h', rB h' b n (P ++ S ++ [x]) → fr h h' b 4 → zwp sc 27 23 [some (.inr (.inl (some b))), l1, some (.inl (n - 1))] [] h' Q) → zwp sc 27 9 [some (.inr (.inl (some b))), l1, some (.inl (P.length : Int))] [] h Q := by
  intro S
  induction S with
  | nil =>
    intro h P x hB hn h48 hQ
    have hQ := hQ h (by simpa using hB) fr_rf
    obtain ⟨G, C, W, hA, hr⟩ := hB
    have h00 := hA.1
    simp only [List.length_nil] at hn
    rw [w_27_9]
    simp (disch := omega) only [e_27, w_27_0, w_27_1, w_27_2, w_27_3, w_27_4, w_27_5, w_27_6, w_27_7, w_27_8, w_27_10, w_27_11, w_27_12, w_27_13, w_27_14, w_27_15, w_27_16, w_27_17, w_27_18, w_27_19, w_27_20, w_27_21, w_27_22, getK, putK, ialK, iasK, aalK, aasK, alnK, zgt_u, zgt_a, Option.toList_some, Option.toList_none, List.cons_append, List.nil_append, List.map_cons, List.map_nil, List.replicate, ite_true, ite_false, if_true, if_false, List.getElem?_cons_zero, List.getElem?_cons_succ, List.set_cons_zero, List.set_cons_succ, true_and, and_true, beq_self_eq_true, zite, Int.toNat_natCast, if_pos, if_neg, zwr_id, zand, h00]
    rw [show (P.length : Int) = n - 1 by omega]
    exact hQ
  | cons y S ih =>
    intro h P x hB hn h48 hQ
    obtain ⟨G, C, W, hA, hr⟩ := hB
    have h00 := hA.1
    simp only [List.length_cons] at hn
    rw [w_27_9]
    simp (disch := omega) only [e_27, w_27_0, w_27_1, w_27_2, w_27_3, w_27_4, w_27_5, w_27_6, w_27_7, w_27_8, w_27_10, w_27_11, w_27_12, w_27_13, w_27_14, w_27_15, w_27_16, w_27_17, w_27_18, w_27_19, w_27_20, w_27_21, w_27_22, w_27_23, w_27_24, w_27_25, w_27_26, w_27_27, w_27_28, w_27_29, getK, putK, ialK, iasK, aalK, aasK, alnK, zgt_u, zgt_a, Option.toList_some, Option.toList_none, List.cons_append, List.nil_append, List.map_cons, List.map_nil, List.replicate, ite_true, ite_false, if_true, if_false, List.getElem?_cons_zero, List.getElem?_cons_succ, List.set_cons_zero, List.set_cons_succ, true_and, and_true, beq_self_eq_true, zite, Int.toNat_natCast, if_pos, if_neg, zwr_id, zand, h00, rA_rc hA]
    refine s_swap hA (by omega) (by omega) (fun h1 hA1 hf1 => ?_)
    simp (disch := omega) only [e_27, w_27_0, w_27_1, w_27_2, w_27_3, w_27_4, w_27_5, w_27_6, w_27_7, w_27_8, w_27_10, w_27_11, w_27_12, w_27_13, w_27_14, w_27_15, w_27_16, w_27_17, w_27_18, w_27_19, w_27_20, w_27_21, w_27_22, w_27_23, w_27_24, w_27_25, w_27_26, w_27_27, w_27_28, w_27_29, getK, putK, ialK, iasK, aalK, aasK, alnK, zgt_u, zgt_a, Option.toList_some, Option.toList_none, List.cons_append, List.nil_append, List.map_cons, List.map_nil, List.replicate, ite_true, ite_false, if_true, if_false, List.getElem?_cons_zero, List.getElem?_cons_succ, List.set_cons_zero, List.set_cons_succ, true_and, and_true, beq_self_eq_true, zite, Int.toNat_natCast, if_pos, if_neg, zwr_id, zand]
    have e : (P.length : Int) + 1 = ((P ++ [y]).length : Nat) := by simp
    rw [e]
    refine ih h1 (P ++ [y]) x ⟨_, _, _, hA1, by simpa using rI_sw hr (Or.inl ⟨rfl, rfl⟩)⟩ (by simp; omega) h48 (fun h' hB' hf => hQ h' (by simpa using hB') (fr_tr hf1 hf))
/-- an item taken out -/
theorem s_takeOut {P S : List zI} {x : zI} (hI : rIt h b (P ++ x :: S)) (hL : (P ++ x :: S).length ≤ 48) (hQ : ∀ h', rIt h' b (P ++ S) → fr h h' b 4 → Q none h') : zca sc 27 [.inr (.inl (some b)), .inl (P.length : Int)] h Q := by
  have hB := rB_It.mp hI
  obtain ⟨G, C, W, hA, hr⟩ := id hB
  have h00 := hA.1
  simp only [List.length_append, List.length_cons] at hL h00
  simp (disch := omega) only [e_27, w_27_0, w_27_1, w_27_2, w_27_3, w_27_4, w_27_5, w_27_6, w_27_7, w_27_8, w_27_10, w_27_11, w_27_12, w_27_13, w_27_14, w_27_15, w_27_16, w_27_17, w_27_18, w_27_19, w_27_20, w_27_21, w_27_22, w_27_23, w_27_24, w_27_25, w_27_26, w_27_27, w_27_28, w_27_29, getK, putK, ialK, iasK, aalK, aasK, alnK, zgt_u, zgt_a, Option.toList_some, Option.toList_none, List.cons_append, List.nil_append, List.map_cons, List.map_nil, List.replicate, ite_true, ite_false, if_true, if_false, List.getElem?_cons_zero, List.getElem?_cons_succ, List.set_cons_zero, List.set_cons_succ, true_and, and_true, beq_self_eq_true, zite, Int.toNat_natCast, if_pos, if_neg, zwr_id, zand, h00]
  refine lp_takeOut _ S h P x hB (by simp; omega) (by simp; omega) (fun h' hB' hf => ?_)
  obtain ⟨G', C', W', hA', hr'⟩ := hB'
  obtain ⟨k0, k1, k2, k3⟩ := id hA'
  simp only [List.length_append, List.length_cons] at k0
  simp (disch := omega) only [e_27, w_27_0, w_27_1, w_27_2, w_27_3, w_27_4, w_27_5, w_27_6, w_27_7, w_27_8, w_27_10, w_27_11, w_27_12, w_27_13, w_27_14, w_27_15, w_27_16, w_27_17, w_27_18, w_27_19, w_27_20, w_27_21, w_27_22, w_27_23, w_27_24, w_27_25, w_27_26, w_27_27, w_27_28, w_27_29, getK, putK, ialK, iasK, aalK, aasK, alnK, zgt_u, zgt_a, Option.toList_some, Option.toList_none, List.cons_append, List.nil_append, List.map_cons, List.map_nil, List.replicate, ite_true, ite_false, if_true, if_false, List.getElem?_cons_zero, List.getElem?_cons_succ, List.set_cons_zero, List.set_cons_succ, true_and, and_true, beq_self_eq_true, zite, Int.toNat_natCast, if_pos, if_neg, zwr_id, zand, k0]
  refine hQ _ (rB_It.mpr ⟨G', C', W', ⟨?_, ?_, ?_, ?_⟩, (rI_app.mp hr').1⟩) (fr_u hf (by omega) (by omega))
  · simp (disch := omega) only [zgt_u, zgt_a, if_pos, if_neg, if_true, if_false, ite_true, ite_false]
    rw [show (((P ++ S).length : Nat) : Int) = ((P.length + (S.length + 1) : Nat) : Int) - 1 by simp; omega]
  · simp (disch := omega) only [zgt_u, zgt_a, if_pos, if_neg, if_true, if_false, ite_true, ite_false]
    exact k1
  · simp (disch := omega) only [zgt_u, zgt_a, if_pos, if_neg, if_true, if_false, ite_true, ite_false]
    exact k2
  · simp (disch := omega) only [zgt_u, zgt_a, if_pos, if_neg, if_true, if_false, ite_true, ite_false]
    exact k3
/-- a copy of another list -/
theorem lp_copy {b2 : Nat} {L : List zI} {G C W : Int → Int} (hd : b2 + 4 ≤ b ∨ b + 4 ≤ b2) (hL : L.length ≤ 48) (hr : rI G C W 0 L) : ∀ (S : List zI) (h : zH) (P : List zI), P ++ S = L → rB h b L.length P → rA h b2 L.length G C W → (∀ h', rIt h' b L → fr h h' b 4 → Q none h') → zwp sc 25 6 [some (.inr (.inl (some b))), some (.inr (.inl (some b2))), some (.inl (P.length : Int))] [] h Q := by
  intro S
  induction S with
  | nil =>
    intro h P hPS hB hA2 hQ
    rw [List.append_nil] at hPS
    subst hPS
    obtain ⟨G1, C1, W1, hA, hr1⟩ := id hB
    have h00 := hA.1
    rw [w_25_6]
    simp (disch := omega) only [e_25, w_25_0, w_25_1, w_25_2, w_25_3, w_25_4, w_25_5, w_25_7, w_25_8, w_25_9, w_25_10, w_25_11, w_25_12, w_25_13, w_25_14, w_25_15, w_25_16, w_25_17, w_25_18, w_25_19, w_25_20, w_25_21, w_25_22, w_25_23, w_25_24, w_25_25, w_25_26, w_25_27, w_25_28, w_25_29, w_25_30, w_25_31, w_25_32, w_25_33, w_25_34, w_25_35, w_25_36, getK, putK, ialK, iasK, aalK, aasK, alnK, zgt_u, zgt_a, Option.toList_some, Option.toList_none, List.cons_append, List.nil_append, List.map_cons, List.map_nil, List.replicate, ite_true, ite_false, if_true, if_false, List.getElem?_cons_zero, List.getElem?_cons_succ, List.set_cons_zero, List.set_cons_succ, true_and, and_true, beq_self_eq_true, zite, Int.toNat_natCast, if_pos, if_neg, zwr_id, zand, h00]
    exact hQ h (rB_It.mpr hB) fr_rf
  | cons y S ih =>
    intro h P hPS hB hA2 hQ
    obtain ⟨G1, C1, W1, ⟨h0, h1, h2, h3⟩, hr1⟩ := hB
    obtain ⟨k0, k1, k2, k3⟩ := id hA2
    have hlen : (P.length : Int) + 1 + S.length = L.length := by rw [← hPS]; simp; omega
    have hm := rI_mid (P := P) (x := y) (S := S) (by rw [hPS]; exact hr)
    rw [w_25_6]
    simp (disch := omega) only [e_25, w_25_0, w_25_1, w_25_2, w_25_3, w_25_4, w_25_5, w_25_7, w_25_8, w_25_9, w_25_10, w_25_11, w_25_12, w_25_13, w_25_14, w_25_15, w_25_16, w_25_17, w_25_18, w_25_19, w_25_20, w_25_21, w_25_22, w_25_23, w_25_24, w_25_25, w_25_26, w_25_27, w_25_28, w_25_29, w_25_30, w_25_31, w_25_32, w_25_33, w_25_34, w_25_35, w_25_36, getK, putK, ialK, iasK, aalK, aasK, alnK, zgt_u, zgt_a, Option.toList_some, Option.toList_none, List.cons_append, List.nil_append, List.map_cons, List.map_nil, List.replicate, ite_true, ite_false, if_true, if_false, List.getElem?_cons_zero, List.getElem?_cons_succ, List.set_cons_zero, List.set_cons_succ, true_and, and_true, beq_self_eq_true, zite, Int.toNat_natCast, if_pos, if_neg, zwr_id, zand, h0, h1, h2, h3, k0, k1, k2, k3, Nat.add_left_cancel_iff, Nat.reduceEqDiff, Nat.left_eq_add, Nat.add_eq_left]
    generalize hh : zuH (zuH (zuH h (b + 1) _) (b + 2) _) (b + 3) _ = h1'
    have e : (P.length : Int) + 1 = ((P ++ [y]).length : Nat) := by simp
    rw [e]
    refine ih h1' (P ++ [y]) (by rw [← hPS]; simp) ⟨zup G1 P.length y.1, zup C1 P.length y.2.1, zup W1 P.length y.2.2, ?_, ?_⟩ ?_ (fun h' a1 a2 => hQ h' a1 (fr_tr ?_ a2))
    · rw [← hh, ← hm.1, ← hm.2.1, ← hm.2.2]
      refine ⟨?_, ?_, ?_, ?_⟩
      · simp (disch := omega) only [zgt_u, zgt_a, if_pos, if_neg, if_true, if_false, ite_true, ite_false]
        exact h0
      · simp (disch := omega) only [zgt_u, zgt_a, if_pos, if_neg, if_true, if_false, ite_true, ite_false]
      · simp (disch := omega) only [zgt_u, zgt_a, if_pos, if_neg, if_true, if_false, ite_true, ite_false]
      · simp (disch := omega) only [zgt_u, zgt_a, if_pos, if_neg, if_true, if_false, ite_true, ite_false]
    · refine rI_app.mpr ⟨rI_ext hr1 (fun k q1 q2 => ?_), ?_⟩
      · rw [zup_n (by omega), zup_n (by omega), zup_n (by omega)]
        exact ⟨rfl, rfl, rfl⟩
      · rw [Int.zero_add]
        exact ⟨zup_s _ _ _, zup_s _ _ _, zup_s _ _ _, trivial⟩
    · rw [← hh]
      refine ⟨?_, ?_, ?_, ?_⟩
      · simp (disch := omega) only [zgt_u, zgt_a, if_pos, if_neg, if_true, if_false, ite_true, ite_false]
        exact k0
      · simp (disch := omega) only [zgt_u, zgt_a, if_pos, if_neg, if_true, if_false, ite_true, ite_false]
        exact k1
      · simp (disch := omega) only [zgt_u, zgt_a, if_pos, if_neg, if_true, if_false, ite_true, ite_false]
        exact k2
      · simp (disch := omega) only [zgt_u, zgt_a, if_pos, if_neg, if_true, if_false, ite_true, ite_false]
        exact k3
    · rw [← hh]
      exact fr_u (fr_u (fr_u fr_rf (by omega) (by omega)) (by omega) (by omega)) (by omega) (by omega)
theorem s_copy2 {b2 : Nat} {L L0 : List zI} (hd : b2 + 4 ≤ b ∨ b + 4 ≤ b2) (hI : rIt h b L0) (hI2 : rIt h b2 L) (hL : L.length ≤ 48) (hQ : ∀ h', rIt h' b L → fr h h' b 4 → Q none h') : zca sc 25 [.inr (.inl (some b)), .inr (.inl (some b2))] h Q := by
  obtain ⟨G, C, W, h0, h1, h2, h3, hr⟩ := hI
  obtain ⟨G2, C2, W2, hA2, hr2⟩ := rB_It.mp hI2
  have k0 := hA2.1
  simp (disch := omega) only [e_25, w_25_0, w_25_1, w_25_2, w_25_3, w_25_4, w_25_5, w_25_7, w_25_8, w_25_9, w_25_10, w_25_11, w_25_12, w_25_13, w_25_14, w_25_15, w_25_16, w_25_17, w_25_18, w_25_19, w_25_20, w_25_21, w_25_22, w_25_23, w_25_24, w_25_25, w_25_26, w_25_27, w_25_28, w_25_29, w_25_30, w_25_31, w_25_32, w_25_33, w_25_34, w_25_35, w_25_36, getK, putK, ialK, iasK, aalK, aasK, alnK, zgt_u, zgt_a, Option.toList_some, Option.toList_none, List.cons_append, List.nil_append, List.map_cons, List.map_nil, List.replicate, ite_true, ite_false, if_true, if_false, List.getElem?_cons_zero, List.getElem?_cons_succ, List.set_cons_zero, List.set_cons_succ, true_and, and_true, beq_self_eq_true, zite, Int.toNat_natCast, if_pos, if_neg, zwr_id, zand, h0, k0]
  generalize hh : zuH h b _ = h1'
  refine lp_copy hd hL hr2 L h1' [] rfl ⟨G, C, W, ?_, trivial⟩ ?_ (fun h' a1 a2 => hQ h' a1 (fr_tr ?_ a2))
  · rw [← hh]
    refine ⟨?_, ?_, ?_, ?_⟩
    · simp (disch := omega) only [zgt_u, zgt_a, if_pos, if_neg, if_true, if_false, ite_true, ite_false]
    · simp (disch := omega) only [zgt_u, zgt_a, if_pos, if_neg, if_true, if_false, ite_true, ite_false]
      exact h1
    · simp (disch := omega) only [zgt_u, zgt_a, if_pos, if_neg, if_true, if_false, ite_true, ite_false]
      exact h2
    · simp (disch := omega) only [zgt_u, zgt_a, if_pos, if_neg, if_true, if_false, ite_true, ite_false]
      exact h3
  · rw [← hh]
    obtain ⟨k0, k1, k2, k3⟩ := hA2
    refine ⟨?_, ?_, ?_, ?_⟩
    · simp (disch := omega) only [zgt_u, zgt_a, if_pos, if_neg, if_true, if_false, ite_true, ite_false]
      exact k0
    · simp (disch := omega) only [zgt_u, zgt_a, if_pos, if_neg, if_true, if_false, ite_true, ite_false]
      exact k1
    · simp (disch := omega) only [zgt_u, zgt_a, if_pos, if_neg, if_true, if_false, ite_true, ite_false]
      exact k2
    · simp (disch := omega) only [zgt_u, zgt_a, if_pos, if_neg, if_true, if_false, ite_true, ite_false]
      exact k3
  · rw [← hh]
    exact fr_u fr_rf (by omega) (by omega)
end
