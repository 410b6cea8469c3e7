/-! THE MODEL'S NODES -/
theorem zb_a1 (p : Prop) [Decidable p] : (Int32.ofInt (zb p) &&& Int32.ofInt 1).toInt = zb p := by
  by_cases h : p <;> simp only [zb, h, if_true, if_false] <;> decide
theorem zb_a0 (p : Prop) [Decidable p] : (Int32.ofInt (zb p) &&& Int32.ofInt 0).toInt = 0 := by
  by_cases h : p <;> simp only [zb, h, if_true, if_false] <;> decide
def mF (h : zH) (pm fl p n : Int) (w : Int → Int) : Prop := zgt h 24 = .inl (6, [.inr (.inl (some 25)), .inr (.inl (some 26)), .inl (pm), .inr (.inl (some 27)), .inl ( fl), .inl ( p), .inr (.inl (some 28)), .inl ( n), .inr (.inl (some 29)), .inr (.inl (some 30)), .inr (.inl (some 31))]) ∧ zgt h 25 = .inr (.inl (437, w))
theorem mF_fr {h h' : zH} {pm fl p n : Int} {w : Int → Int} (hF : mF h pm fl p n w) (hf : fr h h' 29 1) : mF h' pm fl p n w := ⟨(hf.2.2 24 (by omega)).trans hF.1, (hf.2.2 25 (by omega)).trans hF.2⟩
theorem isN_c {x : zI} {B : List zI} {g c : Int} : isN (x :: B) g c = true ↔ (x.1 = g ∧ nd c ≤ nd x.2.1 ∧ bg x.2.1 (nd c) = c) ∨ isN B g c = true := by
  simp [isN, and_assoc]
section
variable {sc : Nat × (Int → Int)} {h : zH} {Q : Option zV → zH → Prop} {pm fl p n : Int} {w : Int → Int} {M : List zI} {f g : Int}
theorem mF_rc (hO : mF h pm fl p n w) {as : List zV} : zrecv h 6 (.inr (.inl (some 24)) :: as) = true := zrc hO.1
theorem lp_isNode {c : Int} (hO : mF h pm fl p n w) (hf : 0 ≤ f ∧ f ≤ 1) (hF : rF w (49 + 193 * f) M) (hl : M.length ≤ 64) (ho : okIs M) (hc : 0 ≤ c ∧ c ≤ 999999) : ∀ (B A : List zI) (l6 : Option zV), M = A ++ B → zwp sc 128 5 [some (.inr (.inl (some 24))), some (.inl f), some (.inl g), some (.inl c), some (.inl (nd c)), some (.inl (A.length : Int)), l6] [] h Q = Q (some (.inl (zb (isN B g c = true)))) h := by
  intro B
  have hnc := nd_nn c
  induction B with
  | nil =>
    intro A l6 e
    rw [List.append_nil] at e
    have hw := hF.1
    rw [e] at hw
    rw [w_128_5, zb_f (by intro q; cases q)]
    simp (disch := omega) only [e_128, w_128_0, w_128_1, w_128_2, w_128_3, w_128_4, w_128_6, w_128_7, w_128_8, w_128_9, w_128_10, w_128_11, w_128_12, w_128_13, w_128_14, w_128_15, w_128_16, w_128_17, w_128_18, w_128_19, w_128_20, w_128_21, w_128_22, w_128_23, w_128_24, w_128_25, w_128_26, w_128_27, w_128_28, w_128_29, w_128_30, w_128_31, w_128_32, w_128_33, w_128_34, w_128_35, getK, putK, ialK, iasK, aalK, aasK, alnK, zgt_u, zgt_a, Option.toList_some, Option.toList_none, List.cons_append, List.nil_append, List.map_cons, List.map_nil, List.replicate, ite_true, ite_false, if_true, if_false, List.getElem?_cons_zero, List.getElem?_cons_succ, List.set_cons_zero, List.set_cons_succ, true_and, and_true, beq_self_eq_true, zite, Int.toNat_natCast, if_pos, if_neg, zwr_id, zand, mF_rc hO, s6_items hO.1 hO.2 hf, hw, true_or, or_true]
  | cons x B ih =>
    intro A l6 e
    have hw := hF.1
    have hlen : M.length = A.length + (B.length + 1) := by rw [e]; simp
    have hxo := (ho x (by rw [e]; simp)).2.2.1
    obtain ⟨hx, hy, hg⟩ := hF.2 A.length (by omega) (by omega)
    rw [e, gI_app] at hx hy hg
    have ih := fun l6 => ih (A ++ [x]) l6 (by rw [e]; simp)
    rw [List.length_append, List.length_singleton, show ((A.length + 1 : Nat) : Int) = (A.length : Int) + 1 by omega] at ih
    have hxr : 0 ≤ x.2.1 ∧ x.2.1 ≤ 999999 := by unfold wd at hxo; omega
    have hnx := wd_nd hxo
    rw [w_128_5]
    by_cases c1 : x.1 = g
    · by_cases c2 : nd c ≤ nd x.2.1
      · by_cases c3 : bg x.2.1 (nd c) = c
        · rw [zb_t (isN_c.mpr (Or.inl ⟨c1, c2, c3⟩))]
          simp (disch := omega) only [e_128, w_128_0, w_128_1, w_128_2, w_128_3, w_128_4, w_128_6, w_128_7, w_128_8, w_128_9, w_128_10, w_128_11, w_128_12, w_128_13, w_128_14, w_128_15, w_128_16, w_128_17, w_128_18, w_128_19, w_128_20, w_128_21, w_128_22, w_128_23, w_128_24, w_128_25, w_128_26, w_128_27, w_128_28, w_128_29, w_128_30, w_128_31, w_128_32, w_128_33, w_128_34, w_128_35, getK, putK, ialK, iasK, aalK, aasK, alnK, zgt_u, zgt_a, Option.toList_some, Option.toList_none, List.cons_append, List.nil_append, List.map_cons, List.map_nil, List.replicate, ite_true, ite_false, if_true, if_false, List.getElem?_cons_zero, List.getElem?_cons_succ, List.set_cons_zero, List.set_cons_succ, true_and, and_true, beq_self_eq_true, zite, Int.toNat_natCast, if_pos, if_neg, zwr_id, zand, mF_rc hO, s6_items hO.1 hO.2 hf, s6_codeAt hO.1 hO.2 hf, s6_groupAt hO.1 hO.2 hf, hw, hx, hg, c1, s_lettersOf6, s_beginning, c3, true_or, or_true]
        · rw [zb_cg (show isN (x :: B) g c = true ↔ isN B g c = true by rw [isN_c]; exact ⟨fun q => q.elim (fun r => absurd r.2.2 c3) id, Or.inr⟩)]
          simp (disch := omega) only [e_128, w_128_0, w_128_1, w_128_2, w_128_3, w_128_4, w_128_6, w_128_7, w_128_8, w_128_9, w_128_10, w_128_11, w_128_12, w_128_13, w_128_14, w_128_15, w_128_16, w_128_17, w_128_18, w_128_19, w_128_20, w_128_21, w_128_22, w_128_23, w_128_24, w_128_25, w_128_26, w_128_27, w_128_28, w_128_29, w_128_30, w_128_31, w_128_32, w_128_33, w_128_34, w_128_35, getK, putK, ialK, iasK, aalK, aasK, alnK, zgt_u, zgt_a, Option.toList_some, Option.toList_none, List.cons_append, List.nil_append, List.map_cons, List.map_nil, List.replicate, ite_true, ite_false, if_true, if_false, List.getElem?_cons_zero, List.getElem?_cons_succ, List.set_cons_zero, List.set_cons_succ, true_and, and_true, beq_self_eq_true, zite, Int.toNat_natCast, if_pos, if_neg, zwr_id, zand, mF_rc hO, s6_items hO.1 hO.2 hf, s6_codeAt hO.1 hO.2 hf, s6_groupAt hO.1 hO.2 hf, hw, hx, hg, c1, s_lettersOf6, s_beginning, c3, ih]
      · rw [zb_cg (show isN (x :: B) g c = true ↔ isN B g c = true by rw [isN_c]; exact ⟨fun q => q.elim (fun r => absurd r.2.1 c2) id, Or.inr⟩)]
        simp (disch := omega) only [e_128, w_128_0, w_128_1, w_128_2, w_128_3, w_128_4, w_128_6, w_128_7, w_128_8, w_128_9, w_128_10, w_128_11, w_128_12, w_128_13, w_128_14, w_128_15, w_128_16, w_128_17, w_128_18, w_128_19, w_128_20, w_128_21, w_128_22, w_128_23, w_128_24, w_128_25, w_128_26, w_128_27, w_128_28, w_128_29, w_128_30, w_128_31, w_128_32, w_128_33, w_128_34, w_128_35, getK, putK, ialK, iasK, aalK, aasK, alnK, zgt_u, zgt_a, Option.toList_some, Option.toList_none, List.cons_append, List.nil_append, List.map_cons, List.map_nil, List.replicate, ite_true, ite_false, if_true, if_false, List.getElem?_cons_zero, List.getElem?_cons_succ, List.set_cons_zero, List.set_cons_succ, true_and, and_true, beq_self_eq_true, zite, Int.toNat_natCast, if_pos, if_neg, zwr_id, zand, mF_rc hO, s6_items hO.1 hO.2 hf, s6_codeAt hO.1 hO.2 hf, s6_groupAt hO.1 hO.2 hf, hw, hx, hg, c1, s_lettersOf6, ih]
    · rw [zb_cg (show isN (x :: B) g c = true ↔ isN B g c = true by rw [isN_c]; exact ⟨fun q => q.elim (fun r => absurd r.1 c1) id, Or.inr⟩)]
      simp (disch := omega) only [e_128, w_128_0, w_128_1, w_128_2, w_128_3, w_128_4, w_128_6, w_128_7, w_128_8, w_128_9, w_128_10, w_128_11, w_128_12, w_128_13, w_128_14, w_128_15, w_128_16, w_128_17, w_128_18, w_128_19, w_128_20, w_128_21, w_128_22, w_128_23, w_128_24, w_128_25, w_128_26, w_128_27, w_128_28, w_128_29, w_128_30, w_128_31, w_128_32, w_128_33, w_128_34, w_128_35, getK, putK, ialK, iasK, aalK, aasK, alnK, zgt_u, zgt_a, Option.toList_some, Option.toList_none, List.cons_append, List.nil_append, List.map_cons, List.map_nil, List.replicate, ite_true, ite_false, if_true, if_false, List.getElem?_cons_zero, List.getElem?_cons_succ, List.set_cons_zero, List.set_cons_succ, true_and, and_true, beq_self_eq_true, zite, Int.toNat_natCast, if_pos, if_neg, zwr_id, zand, mF_rc hO, s6_items hO.1 hO.2 hf, s6_codeAt hO.1 hO.2 hf, s6_groupAt hO.1 hO.2 hf, hw, hx, hg, ih]
theorem s6_isNode {c : Int} (hO : mF h pm fl p n w) (hf : 0 ≤ f ∧ f ≤ 1) (hF : rF w (49 + 193 * f) M) (hl : M.length ≤ 64) (ho : okIs M) (hc : 0 ≤ c ∧ c ≤ 999999) : zca sc 128 [.inr (.inl (some 24)), .inl f, .inl g, .inl c] h Q = Q (some (.inl (zb (isN M g c = true)))) h := by
  simp (disch := omega) only [e_128, w_128_0, w_128_1, w_128_2, w_128_3, w_128_4, w_128_6, w_128_7, w_128_8, w_128_9, w_128_10, w_128_11, w_128_12, w_128_13, w_128_14, w_128_15, w_128_16, w_128_17, w_128_18, w_128_19, w_128_20, w_128_21, w_128_22, w_128_23, w_128_24, w_128_25, w_128_26, w_128_27, w_128_28, w_128_29, w_128_30, w_128_31, w_128_32, w_128_33, w_128_34, w_128_35, getK, putK, ialK, iasK, aalK, aasK, alnK, zgt_u, zgt_a, Option.toList_some, Option.toList_none, List.cons_append, List.nil_append, List.map_cons, List.map_nil, List.replicate, ite_true, ite_false, if_true, if_false, List.getElem?_cons_zero, List.getElem?_cons_succ, List.set_cons_zero, List.set_cons_succ, true_and, and_true, beq_self_eq_true, zite, Int.toNat_natCast, if_pos, if_neg, zwr_id, zand, s_lettersOf6]
  exact lp_isNode hO hf hF hl ho hc M [] _ rfl
/-- the model's row of nodes -/
def rNd (h : zH) (N : List Int) : Prop := ∃ u : Int → Int, zgt h 29 = .inr (.inl (400, u)) ∧ ∀ (i : Nat) (c : Int), N[i]? = some c → u i = c
theorem lp_ln2 {u : Int → Int} {N : List Int} {c : Int} {k0 m0 : Option zV} (hO : mF h pm fl p n w) (h29 : zgt h 29 = .inr (.inl (400, u))) (hN : ∀ (i : Nat) (c : Int), N[i]? = some c → u i = c) (hl : N.length ≤ 399) : ∀ (B A : List Int) (q : Prop) [Decidable q], N = A ++ B → zwp sc 129 35 [some (.inr (.inl (some 24))), some (.inl f), some (.inl g), some (.inl (N.length : Int)), k0, m0, some (.inl c), some (.inl (zb q)), some (.inl (A.length : Int))] [] h Q = zwp sc 129 52 [some (.inr (.inl (some 24))), some (.inl f), some (.inl g), some (.inl (N.length : Int)), k0, m0, some (.inl c), some (.inl (zb (q ∧ c ∉ B))), some (.inl (N.length : Int))] [] h Q := by
  have hO1 := hO.1
  intro B
  induction B with
  | nil =>
    intro A q _ e
    rw [List.append_nil] at e
    have e1 : zb (q ∧ c ∉ ([] : List Int)) = zb q := zb_cg (by simp)
    rw [w_129_35, e1, e]
    simp (disch := omega) only [e_129, w_129_36, w_129_37, w_129_38, w_129_39, w_129_40, w_129_41, w_129_42, w_129_43, w_129_44, w_129_45, w_129_46, w_129_47, w_129_48, w_129_49, w_129_50, w_129_51, getK, putK, ialK, iasK, aalK, aasK, alnK, zgt_u, zgt_a, Option.toList_some, Option.toList_none, List.cons_append, List.nil_append, List.map_cons, List.map_nil, List.replicate, ite_true, ite_false, if_true, if_false, List.getElem?_cons_zero, List.getElem?_cons_succ, List.set_cons_zero, List.set_cons_succ, true_and, and_true, beq_self_eq_true, zite, Int.toNat_natCast, if_pos, if_neg, zwr_id, zand]
  | cons y B ih =>
    intro A q _ e
    have hlen : N.length = A.length + (B.length + 1) := by rw [e]; simp
    have hy := hN A.length y (by rw [e]; simp)
    have ih := fun (q : Prop) [Decidable q] => ih (A ++ [y]) q (by rw [e]; simp)
    rw [List.length_append, List.length_singleton, show ((A.length + 1 : Nat) : Int) = (A.length : Int) + 1 by omega] at ih
    rw [w_129_35]
    by_cases c1 : y = c
    · have e1 : zb (q ∧ c ∉ y :: B) = zb (False ∧ c ∉ B) := zb_cg (by simp [c1])
      have e0 : (0 : Int) = zb False := rfl
      rw [e1, ← ih False]
      simp (disch := omega) only [e_129, w_129_36, w_129_37, w_129_38, w_129_39, w_129_40, w_129_41, w_129_42, w_129_43, w_129_44, w_129_45, w_129_46, w_129_47, w_129_48, w_129_49, w_129_50, w_129_51, getK, putK, ialK, iasK, aalK, aasK, alnK, zgt_u, zgt_a, Option.toList_some, Option.toList_none, List.cons_append, List.nil_append, List.map_cons, List.map_nil, List.replicate, ite_true, ite_false, if_true, if_false, List.getElem?_cons_zero, List.getElem?_cons_succ, List.set_cons_zero, List.set_cons_succ, true_and, and_true, beq_self_eq_true, zite, Int.toNat_natCast, if_pos, if_neg, zwr_id, zand, hO1, h29, hy, zb_a0, ← e0]
    · have e1 : zb (q ∧ c ∉ y :: B) = zb (q ∧ c ∉ B) := zb_cg (by
        rw [List.mem_cons, not_or]
        exact ⟨fun r => ⟨r.1, r.2.2⟩, fun r => ⟨r.1, fun z => c1 z.symm, r.2⟩⟩)
      rw [e1, ← ih q]
      simp (disch := omega) only [e_129, w_129_36, w_129_37, w_129_38, w_129_39, w_129_40, w_129_41, w_129_42, w_129_43, w_129_44, w_129_45, w_129_46, w_129_47, w_129_48, w_129_49, w_129_50, w_129_51, getK, putK, ialK, iasK, aalK, aasK, alnK, zgt_u, zgt_a, Option.toList_some, Option.toList_none, List.cons_append, List.nil_append, List.map_cons, List.map_nil, List.replicate, ite_true, ite_false, if_true, if_false, List.getElem?_cons_zero, List.getElem?_cons_succ, List.set_cons_zero, List.set_cons_succ, true_and, and_true, beq_self_eq_true, zite, Int.toNat_natCast, if_pos, if_neg, zwr_id, zand, hO1, h29, hy, zb_a1]
theorem layX_s {x : zI} {j : Nat} {N : List Int} : layX g x (j + 1) N = layX g x j (if bg x.2.1 (nd x.2.1 - j) ∈ N then N else N ++ [bg x.2.1 (nd x.2.1 - j)]) := rfl
theorem lp_ln1 {x : zI} {k : Int} (hf : 0 ≤ f ∧ f ≤ 1) (hk : 0 ≤ k ∧ k < 64) (hc : w (49 + 193 * f + 1 + k) = x.2.1) (hg : w (49 + 193 * f + 1 + 128 + k) = g) (hx : wd x.2.1) : ∀ (j : Nat) (h : zH) (m : Int) (N : List Int) (l6 l7 l8 : Option zV), m + j = nd x.2.1 + 1 → 1 ≤ m → mF h pm fl p n w → rNd h N → N.length + j ≤ 399 → (∀ h' l5 l6 l7 l8, rNd h' (layX g x j N) → fr h h' 29 1 → zwp sc 129 67 [some (.inr (.inl (some 24))), some (.inl f), some (.inl g), some (.inl ((layX g x j N).length : Int)), some (.inl k), l5, l6, l7, l8] [] h' Q) → zwp sc 129 11 [some (.inr (.inl (some 24))), some (.inl f), some (.inl g), some (.inl (N.length : Int)), some (.inl k), some (.inl m), l6, l7, l8] [] h Q := by
  have hnx := wd_nd hx
  have hxr : 0 ≤ x.2.1 ∧ x.2.1 ≤ 999999 := by unfold wd at hx; omega
  intro j
  induction j with
  | zero =>
    intro h m N l6 l7 l8 hm h1 hO hN hl hQ
    have := hQ h (some (.inl m)) l6 l7 l8 hN fr_rf
    rw [w_129_11]
    simp (disch := omega) only [e_129, w_129_12, w_129_13, w_129_14, w_129_15, w_129_16, w_129_17, w_129_18, w_129_19, w_129_20, w_129_21, w_129_22, w_129_23, w_129_24, w_129_25, w_129_26, w_129_27, w_129_28, w_129_29, w_129_30, w_129_31, w_129_32, w_129_33, w_129_34, w_129_36, w_129_37, w_129_38, w_129_39, w_129_40, w_129_41, w_129_42, w_129_43, w_129_44, w_129_45, w_129_46, w_129_47, w_129_48, w_129_49, w_129_50, w_129_51, w_129_52, w_129_53, w_129_54, w_129_55, w_129_56, w_129_57, w_129_58, w_129_59, w_129_60, w_129_61, w_129_62, w_129_63, w_129_64, w_129_65, w_129_66, getK, putK, ialK, iasK, aalK, aasK, alnK, zgt_u, zgt_a, Option.toList_some, Option.toList_none, List.cons_append, List.nil_append, List.map_cons, List.map_nil, List.replicate, ite_true, ite_false, if_true, if_false, List.getElem?_cons_zero, List.getElem?_cons_succ, List.set_cons_zero, List.set_cons_succ, true_and, and_true, beq_self_eq_true, zite, Int.toNat_natCast, if_pos, if_neg, zwr_id, zand, mF_rc hO, s6_codeAt hO.1 hO.2 hf, hc, s_lettersOf6]
    exact this
  | succ j ih =>
    intro h m N l6 l7 l8 hm h1 hO hN hl hQ
    obtain ⟨u, h29, hu⟩ := id hN
    have hO1 := hO.1
    have e1 : m = nd x.2.1 - j := by omega
    rw [layX_s, ← e1] at hQ
    rw [w_129_11]
    simp (disch := omega) only [e_129, w_129_12, w_129_13, w_129_14, w_129_15, w_129_16, w_129_17, w_129_18, w_129_19, w_129_20, w_129_21, w_129_22, w_129_23, w_129_24, w_129_25, w_129_26, w_129_27, w_129_28, w_129_29, w_129_30, w_129_31, w_129_32, w_129_33, w_129_34, getK, putK, ialK, iasK, aalK, aasK, alnK, zgt_u, zgt_a, Option.toList_some, Option.toList_none, List.cons_append, List.nil_append, List.map_cons, List.map_nil, List.replicate, ite_true, ite_false, if_true, if_false, List.getElem?_cons_zero, List.getElem?_cons_succ, List.set_cons_zero, List.set_cons_succ, true_and, and_true, beq_self_eq_true, zite, Int.toNat_natCast, if_pos, if_neg, zwr_id, zand, mF_rc hO, s6_codeAt hO.1 hO.2 hf, s6_groupAt hO.1 hO.2 hf, hc, hg, s_lettersOf6, s_beginning]
    have k2 := lp_ln2 (sc := sc) (Q := Q) (f := f) (g := g) (k0 := some (.inl k)) (m0 := some (.inl m)) (c := bg x.2.1 m) hO h29 hu (by omega) N [] True rfl
    rw [List.length_nil, Int.natCast_zero, zb_t trivial] at k2
    rw [k2]
    have hd : zb (True ∧ bg x.2.1 m ∉ N) = if bg x.2.1 m ∈ N then 0 else 1 := by
      by_cases q : bg x.2.1 m ∈ N
      · rw [if_pos q, zb_f (fun r => r.2 q)]
      · rw [if_neg q, zb_t ⟨trivial, q⟩]
    rw [hd]
    have hN' : ∀ N', (∀ (i : Nat) (c : Int), N'[i]? = some c → (zup u N.length (bg x.2.1 m)) i = c) → rNd (zuH h 29 (.inr (.inl (400, zup u N.length (bg x.2.1 m))))) N' := fun N' hh => ⟨_, by rw [zgt_u, if_pos rfl], hh⟩
    have hf1 : fr h (zuH h 29 (.inr (.inl (400, zup u N.length (bg x.2.1 m))))) 29 1 := fr_u fr_rf (by omega) (by omega)
    by_cases q : bg x.2.1 m ∈ N
    · rw [if_pos q] at hQ ⊢
      simp (disch := omega) only [e_129, w_129_52, w_129_53, w_129_54, w_129_55, w_129_56, w_129_57, w_129_58, w_129_59, w_129_60, w_129_61, w_129_62, w_129_63, w_129_64, w_129_65, w_129_66, getK, putK, ialK, iasK, aalK, aasK, alnK, zgt_u, zgt_a, Option.toList_some, Option.toList_none, List.cons_append, List.nil_append, List.map_cons, List.map_nil, List.replicate, ite_true, ite_false, if_true, if_false, List.getElem?_cons_zero, List.getElem?_cons_succ, List.set_cons_zero, List.set_cons_succ, true_and, and_true, beq_self_eq_true, zite, Int.toNat_natCast, if_pos, if_neg, zwr_id, zand, hO1, h29]
      refine ih _ (m + 1) N _ _ _ (by omega) (by omega) (mF_fr hO hf1) (hN' N (fun i c hi => ?_)) (by omega) (fun h' l5 l6 l7 l8 a1 a2 => hQ h' l5 l6 l7 l8 a1 (fr_tr hf1 a2))
      have := (List.getElem?_eq_some_iff.mp hi).1
      rw [zup_n (by omega)]
      exact hu i c hi
    · rw [if_neg q] at hQ ⊢
      simp (disch := omega) only [e_129, w_129_52, w_129_53, w_129_54, w_129_55, w_129_56, w_129_57, w_129_58, w_129_59, w_129_60, w_129_61, w_129_62, w_129_63, w_129_64, w_129_65, w_129_66, getK, putK, ialK, iasK, aalK, aasK, alnK, zgt_u, zgt_a, Option.toList_some, Option.toList_none, List.cons_append, List.nil_append, List.map_cons, List.map_nil, List.replicate, ite_true, ite_false, if_true, if_false, List.getElem?_cons_zero, List.getElem?_cons_succ, List.set_cons_zero, List.set_cons_succ, true_and, and_true, beq_self_eq_true, zite, Int.toNat_natCast, if_pos, if_neg, zwr_id, zand, hO1, h29]
      rw [show (N.length : Int) + 1 = ((N ++ [bg x.2.1 m]).length : Int) by simp]
      refine ih _ (m + 1) (N ++ [bg x.2.1 m]) _ _ _ (by omega) (by omega) (mF_fr hO hf1) (hN' _ (fun i c hi => ?_)) (by rw [List.length_append, List.length_singleton]; omega) (fun h' l5 l6 l7 l8 a1 a2 => hQ h' l5 l6 l7 l8 a1 (fr_tr hf1 a2))
      by_cases hi2 : i < N.length
      · rw [List.getElem?_append_left hi2] at hi
        rw [zup_n (by omega)]
        exact hu i c hi
      · rw [List.getElem?_append_right (by omega)] at hi
        have : i - N.length < 1 := (List.getElem?_eq_some_iff.mp hi).1
        rw [show i - N.length = 0 by omega] at hi
        cases hi
        rw [show (i : Int) = (N.length : Int) by omega, zup_s]
theorem lp_ln0 (hf : 0 ≤ f ∧ f ≤ 1) (hF : rF w (49 + 193 * f) M) (hl : M.length ≤ 48) (ho : okIs M) : ∀ (B A : List zI) (h : zH) (N : List Int) (l5 l6 l7 l8 : Option zV), M = A ++ B → mF h pm fl p n w → rNd h N → N.length + 6 * B.length ≤ 399 → (∀ h', rNd h' (layF g B N) → fr h h' 29 1 → Q (some (.inl ((layF g B N).length : Int))) h') → zwp sc 129 4 [some (.inr (.inl (some 24))), some (.inl f), some (.inl g), some (.inl (N.length : Int)), some (.inl (A.length : Int)), l5, l6, l7, l8] [] h Q := by
  intro B
  induction B with
  | nil =>
    intro A h N l5 l6 l7 l8 e hO hN hlN hQ
    rw [List.append_nil] at e
    have hw := hF.1
    rw [e] at hw
    rw [w_129_4]
    simp (disch := omega) only [e_129, w_129_0, w_129_1, w_129_2, w_129_3, w_129_5, w_129_6, w_129_7, w_129_8, w_129_9, w_129_10, w_129_12, w_129_13, w_129_14, w_129_15, w_129_16, w_129_17, w_129_18, w_129_19, w_129_20, w_129_21, w_129_22, w_129_23, w_129_24, w_129_25, w_129_26, w_129_27, w_129_28, w_129_29, w_129_30, w_129_31, w_129_32, w_129_33, w_129_34, w_129_36, w_129_37, w_129_38, w_129_39, w_129_40, w_129_41, w_129_42, w_129_43, w_129_44, w_129_45, w_129_46, w_129_47, w_129_48, w_129_49, w_129_50, w_129_51, w_129_52, w_129_53, w_129_54, w_129_55, w_129_56, w_129_57, w_129_58, w_129_59, w_129_60, w_129_61, w_129_62, w_129_63, w_129_64, w_129_65, w_129_66, w_129_67, w_129_68, w_129_69, w_129_70, getK, putK, ialK, iasK, aalK, aasK, alnK, zgt_u, zgt_a, Option.toList_some, Option.toList_none, List.cons_append, List.nil_append, List.map_cons, List.map_nil, List.replicate, ite_true, ite_false, if_true, if_false, List.getElem?_cons_zero, List.getElem?_cons_succ, List.set_cons_zero, List.set_cons_succ, true_and, and_true, beq_self_eq_true, zite, Int.toNat_natCast, if_pos, if_neg, zwr_id, zand, mF_rc hO, s6_items hO.1 hO.2 hf, hw]
    exact hQ h hN fr_rf
  | cons x B ih =>
    intro A h N l5 l6 l7 l8 e hO hN hlN hQ
    have hw := hF.1
    have hlen : M.length = A.length + (B.length + 1) := by rw [e]; simp
    have hxo := (ho x (by rw [e]; simp)).2.2.1
    have hnx := wd_nd hxo
    have hxr : 0 ≤ x.2.1 ∧ x.2.1 ≤ 999999 := by unfold wd at hxo; omega
    obtain ⟨hx, hy, hg⟩ := hF.2 A.length (by omega) (by omega)
    rw [e, gI_app] at hx hy hg
    have ih := fun h N l5 l6 l7 l8 => ih (A ++ [x]) h N l5 l6 l7 l8 (by rw [e]; simp)
    rw [List.length_append, List.length_singleton, show ((A.length + 1 : Nat) : Int) = (A.length : Int) + 1 by omega] at ih
    rw [List.length_cons] at hlN
    unfold layF at hQ
    rw [w_129_4]
    by_cases c1 : x.1 = g
    · rw [if_pos c1] at hQ
      rw [c1] at hg
      have hlx := layX_len (g := g) (x := x) (nd x.2.1).toNat N
      simp (disch := omega) only [e_129, w_129_5, w_129_6, w_129_7, w_129_8, w_129_9, w_129_10, getK, putK, ialK, iasK, aalK, aasK, alnK, zgt_u, zgt_a, Option.toList_some, Option.toList_none, List.cons_append, List.nil_append, List.map_cons, List.map_nil, List.replicate, ite_true, ite_false, if_true, if_false, List.getElem?_cons_zero, List.getElem?_cons_succ, List.set_cons_zero, List.set_cons_succ, true_and, and_true, beq_self_eq_true, zite, Int.toNat_natCast, if_pos, if_neg, zwr_id, zand, mF_rc hO, s6_items hO.1 hO.2 hf, hw]
      refine lp_ln1 hf ⟨by omega, by omega⟩ hx hg hxo (nd x.2.1).toNat h 1 N _ _ _ (by omega) (by omega) hO hN (by omega) (fun h' m5 m6 m7 m8 a1 a2 => ?_)
      simp (disch := omega) only [e_129, w_129_67, w_129_68, getK, putK, ialK, iasK, aalK, aasK, alnK, zgt_u, zgt_a, Option.toList_some, Option.toList_none, List.cons_append, List.nil_append, List.map_cons, List.map_nil, List.replicate, ite_true, ite_false, if_true, if_false, List.getElem?_cons_zero, List.getElem?_cons_succ, List.set_cons_zero, List.set_cons_succ, true_and, and_true, beq_self_eq_true, zite, Int.toNat_natCast, if_pos, if_neg, zwr_id, zand]
      exact ih h' _ _ _ _ _ (mF_fr hO a2) a1 (by omega) (fun h'' b1 b2 => hQ h'' b1 (fr_tr a2 b2))
    · rw [if_neg c1] at hQ
      simp (disch := omega) only [e_129, w_129_5, w_129_6, w_129_7, w_129_8, w_129_9, w_129_10, getK, putK, ialK, iasK, aalK, aasK, alnK, zgt_u, zgt_a, Option.toList_some, Option.toList_none, List.cons_append, List.nil_append, List.map_cons, List.map_nil, List.replicate, ite_true, ite_false, if_true, if_false, List.getElem?_cons_zero, List.getElem?_cons_succ, List.set_cons_zero, List.set_cons_succ, true_and, and_true, beq_self_eq_true, zite, Int.toNat_natCast, if_pos, if_neg, zwr_id, zand, mF_rc hO, s6_items hO.1 hO.2 hf, hw]
      rw [w_129_11]
      simp (disch := omega) only [e_129, w_129_12, w_129_13, w_129_14, w_129_15, w_129_16, w_129_17, w_129_18, w_129_19, w_129_20, w_129_21, w_129_22, w_129_23, w_129_24, w_129_25, w_129_26, w_129_27, w_129_28, w_129_29, w_129_30, w_129_31, w_129_32, w_129_33, w_129_34, w_129_36, w_129_37, w_129_38, w_129_39, w_129_40, w_129_41, w_129_42, w_129_43, w_129_44, w_129_45, w_129_46, w_129_47, w_129_48, w_129_49, w_129_50, w_129_51, w_129_52, w_129_53, w_129_54, w_129_55, w_129_56, w_129_57, w_129_58, w_129_59, w_129_60, w_129_61, w_129_62, w_129_63, w_129_64, w_129_65, w_129_66, w_129_67, w_129_68, getK, putK, ialK, iasK, aalK, aasK, alnK, zgt_u, zgt_a, Option.toList_some, Option.toList_none, List.cons_append, List.nil_append, List.map_cons, List.map_nil, List.replicate, ite_true, ite_false, if_true, if_false, List.getElem?_cons_zero, List.getElem?_cons_succ, List.set_cons_zero, List.set_cons_succ, true_and, and_true, beq_self_eq_true, zite, Int.toNat_natCast, if_pos, if_neg, zwr_id, zand, mF_rc hO, s6_codeAt hO.1 hO.2 hf, s6_groupAt hO.1 hO.2 hf, hx, hg, s_lettersOf6]
      exact ih h N _ _ _ _ hO hN (by omega) hQ
theorem s6_layNodes (hO : mF h pm fl p n w) (h29 : ∃ u, zgt h 29 = .inr (.inl (400, u))) (hf : 0 ≤ f ∧ f ≤ 1) (hF : rF w (49 + 193 * f) M) (hl : M.length ≤ 48) (ho : okIs M) (hQ : ∀ h', rNd h' (layF g M []) → fr h h' 29 1 → Q (some (.inl ((layF g M []).length : Int))) h') : zca sc 129 [.inr (.inl (some 24)), .inl f, .inl g] h Q := by
  obtain ⟨u, h29⟩ := h29
  simp (disch := omega) only [e_129, w_129_0, w_129_1, w_129_2, w_129_3, getK, putK, ialK, iasK, aalK, aasK, alnK, zgt_u, zgt_a, Option.toList_some, Option.toList_none, List.cons_append, List.nil_append, List.map_cons, List.map_nil, List.replicate, ite_true, ite_false, if_true, if_false, List.getElem?_cons_zero, List.getElem?_cons_succ, List.set_cons_zero, List.set_cons_succ, true_and, and_true, beq_self_eq_true, zite, Int.toNat_natCast, if_pos, if_neg, zwr_id, zand]
  exact lp_ln0 hf hF hl ho M [] h [] _ _ _ _ rfl hO ⟨u, h29, fun i c hi => by simp at hi⟩ (by rw [List.length_nil]; omega) hQ
theorem lp_failure6 {c : Int} (hO : mF h pm fl p n w) (hf : 0 ≤ f ∧ f ≤ 1) (hF : rF w (49 + 193 * f) M) (hl : M.length ≤ 64) (ho : okIs M) (hc : wd c) : ∀ (m : Nat), m ≤ 5 → zwp sc 130 5 [some (.inr (.inl (some 24))), some (.inl f), some (.inl g), some (.inl c), some (.inl (m : Int))] [] h Q = Q (some (.inl (fal (fun c => isN M g c = true) c m : Int))) h := by
  have hcr : 0 ≤ c ∧ c ≤ 999999 := by unfold wd at hc; omega
  intro m
  induction m with
  | zero =>
    intro _
    rw [w_130_5]
    simp (disch := omega) only [e_130, w_130_0, w_130_1, w_130_2, w_130_3, w_130_4, w_130_6, w_130_7, w_130_8, w_130_9, w_130_10, w_130_11, w_130_12, w_130_13, w_130_14, w_130_15, w_130_16, w_130_17, w_130_18, w_130_19, getK, putK, ialK, iasK, aalK, aasK, alnK, zgt_u, zgt_a, Option.toList_some, Option.toList_none, List.cons_append, List.nil_append, List.map_cons, List.map_nil, List.replicate, ite_true, ite_false, if_true, if_false, List.getElem?_cons_zero, List.getElem?_cons_succ, List.set_cons_zero, List.set_cons_succ, true_and, and_true, beq_self_eq_true, zite, Int.toNat_natCast, if_pos, if_neg, zwr_id, zand]
    rfl
  | succ m ih =>
    intro hm
    have hv := vc_md (m + 1) (vc_wd hc)
    have hvr : 0 ≤ c % tp (m + 1) ∧ c % tp (m + 1) ≤ 999999 := ⟨hv.1, by have := hv.2.1; omega⟩
    have ht := tp_pos (m + 1)
    have e1 : (((m + 1 : Nat) : Int)).toNat = m + 1 := by omega
    have e2 : ((m + 1 : Nat) : Int) + -1 = (m : Int) := by omega
    have ih := ih (by omega)
    rw [w_130_5]
    unfold fal
    by_cases c1 : isN M g (c % tp (m + 1)) = true
    · rw [if_pos c1]
      simp (disch := omega) only [e_130, w_130_0, w_130_1, w_130_2, w_130_3, w_130_4, w_130_6, w_130_7, w_130_8, w_130_9, w_130_10, w_130_11, w_130_12, w_130_13, w_130_14, w_130_15, w_130_16, w_130_17, w_130_18, w_130_19, getK, putK, ialK, iasK, aalK, aasK, alnK, zgt_u, zgt_a, Option.toList_some, Option.toList_none, List.cons_append, List.nil_append, List.map_cons, List.map_nil, List.replicate, ite_true, ite_false, if_true, if_false, List.getElem?_cons_zero, List.getElem?_cons_succ, List.set_cons_zero, List.set_cons_succ, true_and, and_true, beq_self_eq_true, zite, Int.toNat_natCast, if_pos, if_neg, zwr_id, zand, mF_rc hO, s_ten, e1, s6_isNode hO hf hF hl ho hvr, zb_t c1]
    · rw [if_neg c1]
      simp (disch := omega) only [e_130, w_130_0, w_130_1, w_130_2, w_130_3, w_130_4, w_130_6, w_130_7, w_130_8, w_130_9, w_130_10, w_130_11, w_130_12, w_130_13, w_130_14, w_130_15, w_130_16, w_130_17, w_130_18, w_130_19, getK, putK, ialK, iasK, aalK, aasK, alnK, zgt_u, zgt_a, Option.toList_some, Option.toList_none, List.cons_append, List.nil_append, List.map_cons, List.map_nil, List.replicate, ite_true, ite_false, if_true, if_false, List.getElem?_cons_zero, List.getElem?_cons_succ, List.set_cons_zero, List.set_cons_succ, true_and, and_true, beq_self_eq_true, zite, Int.toNat_natCast, if_pos, if_neg, zwr_id, zand, mF_rc hO, s_ten, e1, s6_isNode hO hf hF hl ho hvr, zb_f c1, e2, ih]
theorem s6_failure {c : Int} (hO : mF h pm fl p n w) (hf : 0 ≤ f ∧ f ≤ 1) (hF : rF w (49 + 193 * f) M) (hl : M.length ≤ 64) (ho : okIs M) (hc : wd c) : zca sc 130 [.inr (.inl (some 24)), .inl f, .inl g, .inl c] h Q = Q (some (.inl (fal (fun c => isN M g c = true) c (nd c - 1).toNat : Int))) h := by
  have hn := wd_nd hc
  have hcr : 0 ≤ c ∧ c ≤ 999999 := by unfold wd at hc; omega
  simp (disch := omega) only [e_130, w_130_0, w_130_1, w_130_2, w_130_3, w_130_4, w_130_6, w_130_7, w_130_8, w_130_9, w_130_10, w_130_11, w_130_12, w_130_13, w_130_14, w_130_15, w_130_16, w_130_17, w_130_18, w_130_19, getK, putK, ialK, iasK, aalK, aasK, alnK, zgt_u, zgt_a, Option.toList_some, Option.toList_none, List.cons_append, List.nil_append, List.map_cons, List.map_nil, List.replicate, ite_true, ite_false, if_true, if_false, List.getElem?_cons_zero, List.getElem?_cons_succ, List.set_cons_zero, List.set_cons_succ, true_and, and_true, beq_self_eq_true, zite, Int.toNat_natCast, if_pos, if_neg, zwr_id, zand, s_lettersOf6]
  have := lp_failure6 (sc := sc) (Q := Q) (g := g) hO hf hF hl ho hc (nd c - 1).toNat (by omega)
  rw [show (((nd c - 1).toNat : Nat) : Int) = nd c - 1 by omega] at this
  exact this
theorem lp_failures6 {N : List Int} (hO : mF h pm fl p n w) (hN : rNd h N) (hNv : ∀ c ∈ N, wd c) (hNl : N.length ≤ 399) (hf : 0 ≤ f ∧ f ≤ 1) (hF : rF w (49 + 193 * f) M) (hl : M.length ≤ 64) (ho : okIs M) : ∀ (B A : List Int) (a : Int), N = A ++ B → 0 ≤ a → a ≤ 6 * A.length → zwp sc 131 9 [some (.inr (.inl (some 24))), some (.inl f), some (.inl g), some (.inl (N.length : Int)), some (.inl a), some (.inl (A.length : Int))] [] h Q = Q (some (.inl (a + sfl (fun c => isN M g c = true) B))) h := by
  obtain ⟨u, h29, hu⟩ := hN
  have hO1 := hO.1
  intro B
  induction B with
  | nil =>
    intro A a e ha ha2
    rw [List.append_nil] at e
    rw [w_131_9, e]
    simp (disch := omega) only [e_131, w_131_0, w_131_1, w_131_2, w_131_3, w_131_4, w_131_5, w_131_6, w_131_7, w_131_8, w_131_10, w_131_11, w_131_12, w_131_13, w_131_14, w_131_15, w_131_16, w_131_17, w_131_18, w_131_19, w_131_20, w_131_21, w_131_22, w_131_23, w_131_24, w_131_25, w_131_26, getK, putK, ialK, iasK, aalK, aasK, alnK, zgt_u, zgt_a, Option.toList_some, Option.toList_none, List.cons_append, List.nil_append, List.map_cons, List.map_nil, List.replicate, ite_true, ite_false, if_true, if_false, List.getElem?_cons_zero, List.getElem?_cons_succ, List.set_cons_zero, List.set_cons_succ, true_and, and_true, beq_self_eq_true, zite, Int.toNat_natCast, if_pos, if_neg, zwr_id, zand]
    unfold sfl
    rw [Int.add_zero]
  | cons x B ih =>
    intro A a e ha ha2
    have hlen : N.length = A.length + (B.length + 1) := by rw [e]; simp
    have hy := hu A.length x (by rw [e]; simp)
    have hx := hNv x (by rw [e]; simp)
    have hnx := wd_nd hx
    have hfb := fal_b (fun c => isN M g c = true) x (nd x - 1).toNat
    have ih := fun a => ih (A ++ [x]) a (by rw [e]; simp)
    rw [List.length_append, List.length_singleton, show ((A.length + 1 : Nat) : Int) = (A.length : Int) + 1 by omega] at ih
    rw [w_131_9]
    simp (disch := omega) only [e_131, w_131_0, w_131_1, w_131_2, w_131_3, w_131_4, w_131_5, w_131_6, w_131_7, w_131_8, w_131_10, w_131_11, w_131_12, w_131_13, w_131_14, w_131_15, w_131_16, w_131_17, w_131_18, w_131_19, w_131_20, w_131_21, w_131_22, w_131_23, w_131_24, w_131_25, w_131_26, getK, putK, ialK, iasK, aalK, aasK, alnK, zgt_u, zgt_a, Option.toList_some, Option.toList_none, List.cons_append, List.nil_append, List.map_cons, List.map_nil, List.replicate, ite_true, ite_false, if_true, if_false, List.getElem?_cons_zero, List.getElem?_cons_succ, List.set_cons_zero, List.set_cons_succ, true_and, and_true, beq_self_eq_true, zite, Int.toNat_natCast, if_pos, if_neg, zwr_id, zand, hO1, h29, hy, mF_rc hO, s6_failure hO hf hF hl ho hx]
    rw [ih (a + (fal (fun c => isN M g c = true) x (nd x - 1).toNat : Int)) (by omega) (by omega), sfl_c, Int.add_assoc]
theorem layF_wd {c : Int} (ho : okIs M) (h : c ∈ layF g M []) : wd c := by
  rcases ((layF_ok (g := g) M [] ho List.nodup_nil).2 c).mp h with q | ⟨h0, x, hx, -, m, e⟩
  · cases q
  · refine wd_vc ?_ h0
    rw [e]
    exact vc_dt (vc_wd (ho x hx).2.2.1) m
theorem s6_failures (hO : mF h pm fl p n w) (h29 : ∃ u, zgt h 29 = .inr (.inl (400, u))) (hf : 0 ≤ f ∧ f ≤ 1) (hF : rF w (49 + 193 * f) M) (hl : M.length ≤ 48) (ho : okIs M) (hQ : ∀ h', rNd h' (layF g M []) → fr h h' 29 1 → Q (some (.inl (sfl (fun c => isN M g c = true) (layF g M [])))) h') : zca sc 131 [.inr (.inl (some 24)), .inl f, .inl g] h Q := by
  have hlen := layF_len (g := g) M [] ho
  rw [List.length_nil] at hlen
  simp (disch := omega) only [e_131, w_131_0, w_131_1, w_131_2, w_131_3, w_131_4, w_131_5, w_131_6, w_131_7, w_131_8, getK, putK, ialK, iasK, aalK, aasK, alnK, zgt_u, zgt_a, Option.toList_some, Option.toList_none, List.cons_append, List.nil_append, List.map_cons, List.map_nil, List.replicate, ite_true, ite_false, if_true, if_false, List.getElem?_cons_zero, List.getElem?_cons_succ, List.set_cons_zero, List.set_cons_succ, true_and, and_true, beq_self_eq_true, zite, Int.toNat_natCast, if_pos, if_neg, zwr_id, zand, mF_rc hO]
  refine s6_layNodes hO h29 hf hF hl ho (fun h' a1 a2 => ?_)
  simp (disch := omega) only [e_131, w_131_0, w_131_1, w_131_2, w_131_3, w_131_4, w_131_5, w_131_6, w_131_7, w_131_8, getK, putK, ialK, iasK, aalK, aasK, alnK, zgt_u, zgt_a, Option.toList_some, Option.toList_none, List.cons_append, List.nil_append, List.map_cons, List.map_nil, List.replicate, ite_true, ite_false, if_true, if_false, List.getElem?_cons_zero, List.getElem?_cons_succ, List.set_cons_zero, List.set_cons_succ, true_and, and_true, beq_self_eq_true, zite, Int.toNat_natCast, if_pos, if_neg, zwr_id, zand]
  have := lp_failures6 (sc := sc) (Q := Q) (g := g) (mF_fr hO a2) a1 (fun c hc => layF_wd ho hc) (by omega) hf hF (by omega) ho (layF g M []) [] 0 rfl (Int.le_refl _) (by simp)
  rw [Int.zero_add] at this
  have hQ := hQ h' a1 a2
  rw [← this] at hQ
  exact hQ
end
section
variable {sc : Nat × (Int → Int)} {h : zH} {Q : Option zV → zH → Prop} {z : zS} {f g : Int}
theorem mF_of (hM : rM h z) (hz : okZ z) (hf : 0 ≤ f ∧ f ≤ 1) : ∃ w, mF h z.H.length (fil z.I0 z.I1) z.p z.n w ∧ rF w (49 + 193 * f) (famS z f) ∧ (famS z f).length ≤ 48 ∧ okIs (famS z f) := by
  obtain ⟨m0, ⟨w, m1, l1, l2, l3, -⟩, -⟩ := hM
  obtain ⟨o1, o2, o3, o4, o5, o6, o7, -⟩ := hz.1
  refine ⟨w, ⟨m0, m1⟩, ?_⟩
  unfold famS
  by_cases e : f = 0
  · subst e
    rw [if_pos rfl]
    exact ⟨l2, by omega, o2⟩
  · have e : f = 1 := by omega
    subst e
    rw [if_neg (by omega)]
    exact ⟨l3, by omega, o3⟩
theorem rM_9 {h' : zH} {N : List Int} (hM : rM h z) (hf : fr h h' 29 1) (hN : rNd h' N) : rM h' z := by
  obtain ⟨m0, ⟨w, m1, m1'⟩, ⟨pa, m2, m2'⟩, ⟨im, m3, m3'⟩, m4, -, ⟨f6, m6⟩, f7, m7⟩ := hM
  obtain ⟨u, hu, -⟩ := hN
  refine ⟨?_, ⟨w, ?_, m1'⟩, ⟨pa, ?_, m2'⟩, ⟨im, ?_, m3'⟩, ?_, ⟨u, hu⟩, ⟨f6, ?_⟩, f7, ?_⟩
  all_goals rw [hf.2.2 _ (by omega)]; assumption
theorem s6_group {x : Int} (hM : rM h z) (hz : okZ z) (hQ : ∀ h', rM h' z → fr h h' 24 8 → Q (some (.inl (grS z f g x))) h') : zca sc 134 [.inr (.inl (some 24)), .inl f, .inl g, .inl x] h Q := by
  have hO24 := hM.1
  obtain ⟨-, -, -, -, -, m5, -⟩ := id hM
  unfold grS at hQ
  by_cases h0 : (0 ≤ f ∧ f ≤ 1) ∧ (0 ≤ g ∧ g ≤ 6)
  · obtain ⟨w, hO, hF, hl, ho⟩ := mF_of hM hz h0.1
    have hl64 : (famS z f).length ≤ 64 := by omega
    by_cases h2 : 0 ≤ x ∧ x ≤ 4
    · rw [if_pos ⟨h0, h2⟩] at hQ
      by_cases k0 : x = 0
      · subst k0
        rw [if_pos rfl] at hQ
        simp (disch := omega) only [e_134, w_134_0, w_134_1, w_134_2, w_134_3, w_134_4, w_134_5, w_134_6, w_134_7, w_134_8, w_134_9, w_134_10, w_134_11, w_134_12, w_134_13, w_134_14, w_134_15, w_134_16, w_134_17, w_134_18, w_134_19, w_134_20, w_134_21, w_134_22, w_134_23, w_134_24, w_134_25, w_134_26, w_134_27, w_134_28, w_134_29, w_134_30, w_134_31, w_134_32, w_134_33, w_134_34, w_134_35, w_134_36, w_134_37, w_134_38, w_134_39, w_134_40, w_134_41, w_134_42, w_134_43, w_134_44, w_134_45, w_134_46, getK, putK, ialK, iasK, aalK, aasK, alnK, zgt_u, zgt_a, Option.toList_some, Option.toList_none, List.cons_append, List.nil_append, List.map_cons, List.map_nil, List.replicate, ite_true, ite_false, if_true, if_false, List.getElem?_cons_zero, List.getElem?_cons_succ, List.set_cons_zero, List.set_cons_succ, true_and, and_true, beq_self_eq_true, zite, Int.toNat_natCast, if_pos, if_neg, zwr_id, zand, s_isGroup6, s_isIn, zb_eq, zb_ne, h0, and_self, not_true, mF_rc hO, s6_itemsIn hO.1 hO.2 h0.1 hF hl64]
        exact hQ h hM fr_rf
      rw [if_neg k0] at hQ
      by_cases k1 : x = 1
      · subst k1
        rw [if_pos rfl] at hQ
        by_cases c0 : cti g (famS z f) = 0
        · rw [if_pos c0] at hQ
          simp (disch := omega) only [e_134, w_134_0, w_134_1, w_134_2, w_134_3, w_134_4, w_134_5, w_134_6, w_134_7, w_134_8, w_134_9, w_134_10, w_134_11, w_134_12, w_134_13, w_134_14, w_134_15, w_134_16, w_134_17, w_134_18, w_134_19, w_134_20, w_134_21, w_134_22, w_134_23, w_134_24, w_134_25, w_134_26, w_134_27, w_134_28, w_134_29, w_134_30, w_134_31, w_134_32, w_134_33, w_134_34, w_134_35, w_134_36, w_134_37, w_134_38, w_134_39, w_134_40, w_134_41, w_134_42, w_134_43, w_134_44, w_134_45, w_134_46, getK, putK, ialK, iasK, aalK, aasK, alnK, zgt_u, zgt_a, Option.toList_some, Option.toList_none, List.cons_append, List.nil_append, List.map_cons, List.map_nil, List.replicate, ite_true, ite_false, if_true, if_false, List.getElem?_cons_zero, List.getElem?_cons_succ, List.set_cons_zero, List.set_cons_succ, true_and, and_true, beq_self_eq_true, zite, Int.toNat_natCast, if_pos, if_neg, zwr_id, zand, s_isGroup6, s_isIn, zb_eq, zb_ne, h0, and_self, not_true, mF_rc hO, s6_itemsIn hO.1 hO.2 h0.1 hF hl64, c0]
          exact hQ h hM fr_rf
        · rw [if_neg c0] at hQ
          have hlen := layF_len (g := g) (famS z f) [] ho
          rw [List.length_nil] at hlen
          simp (disch := omega) only [e_134, w_134_0, w_134_1, w_134_2, w_134_3, w_134_4, w_134_5, w_134_6, w_134_7, w_134_8, w_134_9, w_134_10, w_134_11, w_134_12, w_134_13, w_134_14, w_134_15, w_134_16, w_134_17, w_134_18, w_134_19, w_134_20, w_134_21, w_134_22, w_134_23, w_134_24, w_134_25, w_134_26, w_134_27, w_134_28, w_134_29, w_134_30, w_134_31, w_134_32, w_134_33, w_134_34, w_134_35, w_134_36, w_134_37, w_134_38, w_134_39, w_134_40, w_134_41, w_134_42, w_134_43, w_134_44, w_134_45, w_134_46, getK, putK, ialK, iasK, aalK, aasK, alnK, zgt_u, zgt_a, Option.toList_some, Option.toList_none, List.cons_append, List.nil_append, List.map_cons, List.map_nil, List.replicate, ite_true, ite_false, if_true, if_false, List.getElem?_cons_zero, List.getElem?_cons_succ, List.set_cons_zero, List.set_cons_succ, true_and, and_true, beq_self_eq_true, zite, Int.toNat_natCast, if_pos, if_neg, zwr_id, zand, s_isGroup6, s_isIn, zb_eq, zb_ne, h0, and_self, not_true, mF_rc hO, s6_itemsIn hO.1 hO.2 h0.1 hF hl64]
          refine s6_layNodes hO m5 h0.1 hF hl ho (fun h' a1 a2 => ?_)
          simp (disch := omega) only [e_134, w_134_0, w_134_1, w_134_2, w_134_3, w_134_4, w_134_5, w_134_6, w_134_7, w_134_8, w_134_9, w_134_10, w_134_11, w_134_12, w_134_13, w_134_14, w_134_15, w_134_16, w_134_17, w_134_18, w_134_19, w_134_20, w_134_21, w_134_22, w_134_23, w_134_24, w_134_25, w_134_26, w_134_27, w_134_28, w_134_29, w_134_30, w_134_31, w_134_32, w_134_33, w_134_34, w_134_35, w_134_36, w_134_37, w_134_38, w_134_39, w_134_40, w_134_41, w_134_42, w_134_43, w_134_44, w_134_45, w_134_46, getK, putK, ialK, iasK, aalK, aasK, alnK, zgt_u, zgt_a, Option.toList_some, Option.toList_none, List.cons_append, List.nil_append, List.map_cons, List.map_nil, List.replicate, ite_true, ite_false, if_true, if_false, List.getElem?_cons_zero, List.getElem?_cons_succ, List.set_cons_zero, List.set_cons_succ, true_and, and_true, beq_self_eq_true, zite, Int.toNat_natCast, if_pos, if_neg, zwr_id, zand]
          exact hQ h' (rM_9 hM a2 a1) (fr_wd a2 (by omega) (by omega))
      rw [if_neg k1] at hQ
      by_cases k2 : x = 2
      · subst k2
        rw [if_pos rfl] at hQ
        simp (disch := omega) only [e_134, w_134_0, w_134_1, w_134_2, w_134_3, w_134_4, w_134_5, w_134_6, w_134_7, w_134_8, w_134_9, w_134_10, w_134_11, w_134_12, w_134_13, w_134_14, w_134_15, w_134_16, w_134_17, w_134_18, w_134_19, w_134_20, w_134_21, w_134_22, w_134_23, w_134_24, w_134_25, w_134_26, w_134_27, w_134_28, w_134_29, w_134_30, w_134_31, w_134_32, w_134_33, w_134_34, w_134_35, w_134_36, w_134_37, w_134_38, w_134_39, w_134_40, w_134_41, w_134_42, w_134_43, w_134_44, w_134_45, w_134_46, getK, putK, ialK, iasK, aalK, aasK, alnK, zgt_u, zgt_a, Option.toList_some, Option.toList_none, List.cons_append, List.nil_append, List.map_cons, List.map_nil, List.replicate, ite_true, ite_false, if_true, if_false, List.getElem?_cons_zero, List.getElem?_cons_succ, List.set_cons_zero, List.set_cons_succ, true_and, and_true, beq_self_eq_true, zite, Int.toNat_natCast, if_pos, if_neg, zwr_id, zand, s_isGroup6, s_isIn, zb_eq, zb_ne, h0, and_self, not_true, mF_rc hO, s6_lettersIn hO.1 hO.2 h0.1 hF hl64 ho]
        exact hQ h hM fr_rf
      rw [if_neg k2] at hQ
      by_cases k3 : x = 3
      · subst k3
        rw [if_pos rfl] at hQ
        simp (disch := omega) only [e_134, w_134_0, w_134_1, w_134_2, w_134_3, w_134_4, w_134_5, w_134_6, w_134_7, w_134_8, w_134_9, w_134_10, w_134_11, w_134_12, w_134_13, w_134_14, w_134_15, w_134_16, w_134_17, w_134_18, w_134_19, w_134_20, w_134_21, w_134_22, w_134_23, w_134_24, w_134_25, w_134_26, w_134_27, w_134_28, w_134_29, w_134_30, w_134_31, w_134_32, w_134_33, w_134_34, w_134_35, w_134_36, w_134_37, w_134_38, w_134_39, w_134_40, w_134_41, w_134_42, w_134_43, w_134_44, w_134_45, w_134_46, getK, putK, ialK, iasK, aalK, aasK, alnK, zgt_u, zgt_a, Option.toList_some, Option.toList_none, List.cons_append, List.nil_append, List.map_cons, List.map_nil, List.replicate, ite_true, ite_false, if_true, if_false, List.getElem?_cons_zero, List.getElem?_cons_succ, List.set_cons_zero, List.set_cons_succ, true_and, and_true, beq_self_eq_true, zite, Int.toNat_natCast, if_pos, if_neg, zwr_id, zand, s_isGroup6, s_isIn, zb_eq, zb_ne, h0, and_self, not_true, mF_rc hO]
        refine s6_failures hO m5 h0.1 hF hl ho (fun h' a1 a2 => ?_)
        simp (disch := omega) only [e_134, w_134_0, w_134_1, w_134_2, w_134_3, w_134_4, w_134_5, w_134_6, w_134_7, w_134_8, w_134_9, w_134_10, w_134_11, w_134_12, w_134_13, w_134_14, w_134_15, w_134_16, w_134_17, w_134_18, w_134_19, w_134_20, w_134_21, w_134_22, w_134_23, w_134_24, w_134_25, w_134_26, w_134_27, w_134_28, w_134_29, w_134_30, w_134_31, w_134_32, w_134_33, w_134_34, w_134_35, w_134_36, w_134_37, w_134_38, w_134_39, w_134_40, w_134_41, w_134_42, w_134_43, w_134_44, w_134_45, w_134_46, getK, putK, ialK, iasK, aalK, aasK, alnK, zgt_u, zgt_a, Option.toList_some, Option.toList_none, List.cons_append, List.nil_append, List.map_cons, List.map_nil, List.replicate, ite_true, ite_false, if_true, if_false, List.getElem?_cons_zero, List.getElem?_cons_succ, List.set_cons_zero, List.set_cons_succ, true_and, and_true, beq_self_eq_true, zite, Int.toNat_natCast, if_pos, if_neg, zwr_id, zand]
        exact hQ h' (rM_9 hM a2 a1) (fr_wd a2 (by omega) (by omega))
      rw [if_neg k3] at hQ
      simp (disch := omega) only [e_134, w_134_0, w_134_1, w_134_2, w_134_3, w_134_4, w_134_5, w_134_6, w_134_7, w_134_8, w_134_9, w_134_10, w_134_11, w_134_12, w_134_13, w_134_14, w_134_15, w_134_16, w_134_17, w_134_18, w_134_19, w_134_20, w_134_21, w_134_22, w_134_23, w_134_24, w_134_25, w_134_26, w_134_27, w_134_28, w_134_29, w_134_30, w_134_31, w_134_32, w_134_33, w_134_34, w_134_35, w_134_36, w_134_37, w_134_38, w_134_39, w_134_40, w_134_41, w_134_42, w_134_43, w_134_44, w_134_45, w_134_46, getK, putK, ialK, iasK, aalK, aasK, alnK, zgt_u, zgt_a, Option.toList_some, Option.toList_none, List.cons_append, List.nil_append, List.map_cons, List.map_nil, List.replicate, ite_true, ite_false, if_true, if_false, List.getElem?_cons_zero, List.getElem?_cons_succ, List.set_cons_zero, List.set_cons_succ, true_and, and_true, beq_self_eq_true, zite, Int.toNat_natCast, if_pos, if_neg, zwr_id, zand, s_isGroup6, s_isIn, zb_eq, zb_ne, h0, and_self, not_true, mF_rc hO, s6_weightsIn hO.1 hO.2 h0.1 hF hl64 ho]
      exact hQ h hM fr_rf
    · rw [if_neg (fun q => h2 q.2)] at hQ
      simp (disch := omega) only [e_134, w_134_0, w_134_1, w_134_2, w_134_3, w_134_4, w_134_5, w_134_6, w_134_7, w_134_8, w_134_9, w_134_10, w_134_11, w_134_12, w_134_13, w_134_14, w_134_15, w_134_16, w_134_17, w_134_18, w_134_19, w_134_20, w_134_21, w_134_22, w_134_23, w_134_24, w_134_25, w_134_26, w_134_27, w_134_28, w_134_29, w_134_30, w_134_31, w_134_32, w_134_33, w_134_34, w_134_35, w_134_36, w_134_37, w_134_38, w_134_39, w_134_40, w_134_41, w_134_42, w_134_43, w_134_44, w_134_45, w_134_46, getK, putK, ialK, iasK, aalK, aasK, alnK, zgt_u, zgt_a, Option.toList_some, Option.toList_none, List.cons_append, List.nil_append, List.map_cons, List.map_nil, List.replicate, ite_true, ite_false, if_true, if_false, List.getElem?_cons_zero, List.getElem?_cons_succ, List.set_cons_zero, List.set_cons_succ, true_and, and_true, beq_self_eq_true, zite, Int.toNat_natCast, if_pos, if_neg, zwr_id, zand, s_isGroup6, s_isIn, zb_eq, zb_ne, h0, and_self, not_true]
      exact hQ h hM fr_rf
  · rw [if_neg (fun q => h0 q.1)] at hQ
    simp (disch := omega) only [e_134, w_134_0, w_134_1, w_134_2, w_134_3, w_134_4, w_134_5, w_134_6, w_134_7, w_134_8, w_134_9, w_134_10, w_134_11, w_134_12, w_134_13, w_134_14, w_134_15, w_134_16, w_134_17, w_134_18, w_134_19, w_134_20, w_134_21, w_134_22, w_134_23, w_134_24, w_134_25, w_134_26, w_134_27, w_134_28, w_134_29, w_134_30, w_134_31, w_134_32, w_134_33, w_134_34, w_134_35, w_134_36, w_134_37, w_134_38, w_134_39, w_134_40, w_134_41, w_134_42, w_134_43, w_134_44, w_134_45, w_134_46, getK, putK, ialK, iasK, aalK, aasK, alnK, zgt_u, zgt_a, Option.toList_some, Option.toList_none, List.cons_append, List.nil_append, List.map_cons, List.map_nil, List.replicate, ite_true, ite_false, if_true, if_false, List.getElem?_cons_zero, List.getElem?_cons_succ, List.set_cons_zero, List.set_cons_succ, true_and, and_true, beq_self_eq_true, zite, Int.toNat_natCast, if_pos, if_neg, zwr_id, zand, s_isGroup6, s_isIn, zb_eq, zb_ne, h0, not_false_eq_true]
    exact hQ h hM fr_rf
end
/-! FOLLOWING -/
theorem tc_l {T : Int → Int} : ∀ (m : Nat) (r : Int), tc T r (m + 1) = (T (r - ((m : Int) + 1)) + 1) * tp m + tc T r m
  | 0, r => by
    show 0 * 10 + T (r - 1) + 1 = (T (r - (0 + 1)) + 1) * 1 + 0
    rw [show r - (0 + 1) = r - 1 by omega]
    omega
  | m + 1, r => by
    have ih := tc_l (T := T) m (r - 1)
    show tc T (r - 1) (m + 1) * 10 + T (r - 1) + 1 = _ * (10 * tp m) + (tc T (r - 1) m * 10 + T (r - 1) + 1)
    rw [ih, show r - 1 - ((m : Int) + 1) = r - (((m + 1 : Nat) : Int) + 1) by omega]
    generalize T (r - (((m + 1 : Nat) : Int) + 1)) + 1 = a
    rw [show a * (10 * tp m) = a * tp m * 10 by rw [Int.mul_left_comm, Int.mul_comm]]
    omega
section
variable {sc : Nat × (Int → Int)} {h : zH} {Q : Option zV → zH → Prop} {z : zS} {f g : Int}
theorem lp_follow6 {i : Int} {pm fl p n : Int} {w T : Int → Int} {M : List zI} (hO : mF h pm fl p n w) (hX : zgt h 28 = .inr (.inl (60, T))) (hT : okT T n) (hf : 0 ≤ f ∧ f ≤ 1) (hF : rF w (49 + 193 * f) M) (hl : M.length ≤ 64) (ho : okIs M) (h0 : 0 ≤ i) (hi : i ≤ n) : ∀ (j m : Nat), (m : Int) + j = min i 6 → zwp sc 137 25 [some (.inr (.inl (some 24))), some (.inl f), some (.inl g), some (.inl i), some (.inl (foF (isN M g) T i m)), some (.inl (tc T i m)), some (.inl ((m : Int) + 1))] [] h Q = Q (some (.inl (foF (isN M g) T i (m + j)))) h := by
  have h60 := hT.2.1
  have hO1 := hO.1
  intro j
  induction j with
  | zero =>
    intro m hm
    rw [w_137_25]
    by_cases c6 : 6 < (m : Int) + 1
    · simp (disch := omega) only [e_137, w_137_0, w_137_1, w_137_2, w_137_3, w_137_4, w_137_5, w_137_6, w_137_7, w_137_8, w_137_9, w_137_10, w_137_11, w_137_12, w_137_13, w_137_14, w_137_15, w_137_16, w_137_17, w_137_18, w_137_19, w_137_20, w_137_21, w_137_22, w_137_23, w_137_24, w_137_26, w_137_27, w_137_28, w_137_29, w_137_30, w_137_31, w_137_32, w_137_33, w_137_34, w_137_35, w_137_36, w_137_37, w_137_38, w_137_39, w_137_40, w_137_41, w_137_42, w_137_43, w_137_44, w_137_45, w_137_46, w_137_47, w_137_48, w_137_49, w_137_50, w_137_51, w_137_52, w_137_53, w_137_54, w_137_55, w_137_56, w_137_57, w_137_58, w_137_59, w_137_60, getK, putK, ialK, iasK, aalK, aasK, alnK, zgt_u, zgt_a, Option.toList_some, Option.toList_none, List.cons_append, List.nil_append, List.map_cons, List.map_nil, List.replicate, ite_true, ite_false, if_true, if_false, List.getElem?_cons_zero, List.getElem?_cons_succ, List.set_cons_zero, List.set_cons_succ, true_and, and_true, beq_self_eq_true, zite, Int.toNat_natCast, if_pos, if_neg, zwr_id, zand, Nat.add_zero]
    · simp (disch := omega) only [e_137, w_137_0, w_137_1, w_137_2, w_137_3, w_137_4, w_137_5, w_137_6, w_137_7, w_137_8, w_137_9, w_137_10, w_137_11, w_137_12, w_137_13, w_137_14, w_137_15, w_137_16, w_137_17, w_137_18, w_137_19, w_137_20, w_137_21, w_137_22, w_137_23, w_137_24, w_137_26, w_137_27, w_137_28, w_137_29, w_137_30, w_137_31, w_137_32, w_137_33, w_137_34, w_137_35, w_137_36, w_137_37, w_137_38, w_137_39, w_137_40, w_137_41, w_137_42, w_137_43, w_137_44, w_137_45, w_137_46, w_137_47, w_137_48, w_137_49, w_137_50, w_137_51, w_137_52, w_137_53, w_137_54, w_137_55, w_137_56, w_137_57, w_137_58, w_137_59, w_137_60, getK, putK, ialK, iasK, aalK, aasK, alnK, zgt_u, zgt_a, Option.toList_some, Option.toList_none, List.cons_append, List.nil_append, List.map_cons, List.map_nil, List.replicate, ite_true, ite_false, if_true, if_false, List.getElem?_cons_zero, List.getElem?_cons_succ, List.set_cons_zero, List.set_cons_succ, true_and, and_true, beq_self_eq_true, zite, Int.toNat_natCast, if_pos, if_neg, zwr_id, zand, Nat.add_zero]
  | succ j ih =>
    intro m hm
    have hb := tc_b hT m i (by omega) hi
    have hb1 := tc_b hT (m + 1) i (by omega) hi
    have h6 := tp_6 (n := m) (by omega)
    have h61 := tp_6 (n := m + 1) (by omega)
    have hl4 := hT.2.2 (i - ((m : Int) + 1)) (by omega) (by omega)
    have et := tc_l (T := T) m i
    have e1 : (((m : Int) + 1 - 1)).toNat = m := by omega
    have e2 : tc T i m + (T (i - ((m : Int) + 1)) + 1) * tp m = tc T i (m + 1) := by omega
    have hcr : 0 ≤ tc T i (m + 1) ∧ tc T i (m + 1) ≤ 999999 := by omega
    have ih := ih (m + 1) (by omega)
    rw [show m + 1 + j = m + (j + 1) by omega, show ((m + 1 : Nat) : Int) = (m : Int) + 1 by omega] at ih
    rw [w_137_25]
    by_cases c1 : isN M g (tc T i (m + 1)) = true
    · have e3 : foF (isN M g) T i (m + 1) = tc T i (m + 1) := if_pos c1
      rw [e3] at ih
      simp (disch := omega) only [e_137, w_137_0, w_137_1, w_137_2, w_137_3, w_137_4, w_137_5, w_137_6, w_137_7, w_137_8, w_137_9, w_137_10, w_137_11, w_137_12, w_137_13, w_137_14, w_137_15, w_137_16, w_137_17, w_137_18, w_137_19, w_137_20, w_137_21, w_137_22, w_137_23, w_137_24, w_137_26, w_137_27, w_137_28, w_137_29, w_137_30, w_137_31, w_137_32, w_137_33, w_137_34, w_137_35, w_137_36, w_137_37, w_137_38, w_137_39, w_137_40, w_137_41, w_137_42, w_137_43, w_137_44, w_137_45, w_137_46, w_137_47, w_137_48, w_137_49, w_137_50, w_137_51, w_137_52, w_137_53, w_137_54, w_137_55, w_137_56, w_137_57, w_137_58, w_137_59, w_137_60, getK, putK, ialK, iasK, aalK, aasK, alnK, zgt_u, zgt_a, Option.toList_some, Option.toList_none, List.cons_append, List.nil_append, List.map_cons, List.map_nil, List.replicate, ite_true, ite_false, if_true, if_false, List.getElem?_cons_zero, List.getElem?_cons_succ, List.set_cons_zero, List.set_cons_succ, true_and, and_true, beq_self_eq_true, zite, Int.toNat_natCast, if_pos, if_neg, zwr_id, zand, hO1, hX, mF_rc hO, s_ten, e1, e2, s6_isNode hO hf hF hl ho hcr, zb_t c1]
      exact ih
    · have e3 : foF (isN M g) T i (m + 1) = foF (isN M g) T i m := if_neg c1
      rw [e3] at ih
      simp (disch := omega) only [e_137, w_137_0, w_137_1, w_137_2, w_137_3, w_137_4, w_137_5, w_137_6, w_137_7, w_137_8, w_137_9, w_137_10, w_137_11, w_137_12, w_137_13, w_137_14, w_137_15, w_137_16, w_137_17, w_137_18, w_137_19, w_137_20, w_137_21, w_137_22, w_137_23, w_137_24, w_137_26, w_137_27, w_137_28, w_137_29, w_137_30, w_137_31, w_137_32, w_137_33, w_137_34, w_137_35, w_137_36, w_137_37, w_137_38, w_137_39, w_137_40, w_137_41, w_137_42, w_137_43, w_137_44, w_137_45, w_137_46, w_137_47, w_137_48, w_137_49, w_137_50, w_137_51, w_137_52, w_137_53, w_137_54, w_137_55, w_137_56, w_137_57, w_137_58, w_137_59, w_137_60, getK, putK, ialK, iasK, aalK, aasK, alnK, zgt_u, zgt_a, Option.toList_some, Option.toList_none, List.cons_append, List.nil_append, List.map_cons, List.map_nil, List.replicate, ite_true, ite_false, if_true, if_false, List.getElem?_cons_zero, List.getElem?_cons_succ, List.set_cons_zero, List.set_cons_succ, true_and, and_true, beq_self_eq_true, zite, Int.toNat_natCast, if_pos, if_neg, zwr_id, zand, hO1, hX, mF_rc hO, s_ten, e1, e2, s6_isNode hO hf hF hl ho hcr, zb_f c1]
      exact ih
theorem s6_follow {i : Int} (hM : rM h z) (hz : okZ z) : zca sc 137 [.inr (.inl (some 24)), .inl f, .inl g, .inl i] h Q = Q (some (.inl (foS z f g i))) h := by
  have hO1 := hM.1
  have hX := hM.2.2.2.2.1
  have hT := hz.2.2.2.2.2.2
  unfold foS
  by_cases h0 : (0 ≤ f ∧ f ≤ 1) ∧ (0 ≤ g ∧ g ≤ 6)
  · obtain ⟨w, hO, hF, hl, ho⟩ := mF_of hM hz h0.1
    have hl64 : (famS z f).length ≤ 64 := by omega
    by_cases h2 : 0 ≤ i
    · rw [if_pos ⟨h0, h2⟩]
      by_cases c0 : cti g (famS z f) = 0
      · rw [if_pos (Or.inl c0)]
        simp (disch := omega) only [e_137, w_137_0, w_137_1, w_137_2, w_137_3, w_137_4, w_137_5, w_137_6, w_137_7, w_137_8, w_137_9, w_137_10, w_137_11, w_137_12, w_137_13, w_137_14, w_137_15, w_137_16, w_137_17, w_137_18, w_137_19, w_137_20, w_137_21, w_137_22, w_137_23, w_137_24, w_137_26, w_137_27, w_137_28, w_137_29, w_137_30, w_137_31, w_137_32, w_137_33, w_137_34, w_137_35, w_137_36, w_137_37, w_137_38, w_137_39, w_137_40, w_137_41, w_137_42, w_137_43, w_137_44, w_137_45, w_137_46, w_137_47, w_137_48, w_137_49, w_137_50, w_137_51, w_137_52, w_137_53, w_137_54, w_137_55, w_137_56, w_137_57, w_137_58, w_137_59, w_137_60, getK, putK, ialK, iasK, aalK, aasK, alnK, zgt_u, zgt_a, Option.toList_some, Option.toList_none, List.cons_append, List.nil_append, List.map_cons, List.map_nil, List.replicate, ite_true, ite_false, if_true, if_false, List.getElem?_cons_zero, List.getElem?_cons_succ, List.set_cons_zero, List.set_cons_succ, true_and, and_true, beq_self_eq_true, zite, Int.toNat_natCast, if_pos, if_neg, zwr_id, zand, s_isGroup6, zb_eq, zb_ne, h0, and_self, not_true, mF_rc hO, s6_itemsIn hO.1 hO.2 h0.1 hF hl64, c0]
      · by_cases c2 : z.n < i
        · rw [if_pos (Or.inr c2)]
          simp (disch := omega) only [e_137, w_137_0, w_137_1, w_137_2, w_137_3, w_137_4, w_137_5, w_137_6, w_137_7, w_137_8, w_137_9, w_137_10, w_137_11, w_137_12, w_137_13, w_137_14, w_137_15, w_137_16, w_137_17, w_137_18, w_137_19, w_137_20, w_137_21, w_137_22, w_137_23, w_137_24, w_137_26, w_137_27, w_137_28, w_137_29, w_137_30, w_137_31, w_137_32, w_137_33, w_137_34, w_137_35, w_137_36, w_137_37, w_137_38, w_137_39, w_137_40, w_137_41, w_137_42, w_137_43, w_137_44, w_137_45, w_137_46, w_137_47, w_137_48, w_137_49, w_137_50, w_137_51, w_137_52, w_137_53, w_137_54, w_137_55, w_137_56, w_137_57, w_137_58, w_137_59, w_137_60, getK, putK, ialK, iasK, aalK, aasK, alnK, zgt_u, zgt_a, Option.toList_some, Option.toList_none, List.cons_append, List.nil_append, List.map_cons, List.map_nil, List.replicate, ite_true, ite_false, if_true, if_false, List.getElem?_cons_zero, List.getElem?_cons_succ, List.set_cons_zero, List.set_cons_succ, true_and, and_true, beq_self_eq_true, zite, Int.toNat_natCast, if_pos, if_neg, zwr_id, zand, hO1, s_isGroup6, zb_eq, zb_ne, h0, and_self, not_true, mF_rc hO, s6_itemsIn hO.1 hO.2 h0.1 hF hl64]
        · rw [if_neg (by omega)]
          simp (disch := omega) only [e_137, w_137_0, w_137_1, w_137_2, w_137_3, w_137_4, w_137_5, w_137_6, w_137_7, w_137_8, w_137_9, w_137_10, w_137_11, w_137_12, w_137_13, w_137_14, w_137_15, w_137_16, w_137_17, w_137_18, w_137_19, w_137_20, w_137_21, w_137_22, w_137_23, w_137_24, w_137_26, w_137_27, w_137_28, w_137_29, w_137_30, w_137_31, w_137_32, w_137_33, w_137_34, w_137_35, w_137_36, w_137_37, w_137_38, w_137_39, w_137_40, w_137_41, w_137_42, w_137_43, w_137_44, w_137_45, w_137_46, w_137_47, w_137_48, w_137_49, w_137_50, w_137_51, w_137_52, w_137_53, w_137_54, w_137_55, w_137_56, w_137_57, w_137_58, w_137_59, w_137_60, getK, putK, ialK, iasK, aalK, aasK, alnK, zgt_u, zgt_a, Option.toList_some, Option.toList_none, List.cons_append, List.nil_append, List.map_cons, List.map_nil, List.replicate, ite_true, ite_false, if_true, if_false, List.getElem?_cons_zero, List.getElem?_cons_succ, List.set_cons_zero, List.set_cons_succ, true_and, and_true, beq_self_eq_true, zite, Int.toNat_natCast, if_pos, if_neg, zwr_id, zand, hO1, s_isGroup6, zb_eq, zb_ne, h0, and_self, not_true, mF_rc hO, s6_itemsIn hO.1 hO.2 h0.1 hF hl64]
          have := lp_follow6 (sc := sc) (Q := Q) (g := g) hO hX hT h0.1 hF hl64 ho h2 (show i ≤ z.n by omega) (min i 6).toNat 0 (by omega)
          rw [Nat.zero_add] at this
          exact this
    · rw [if_neg (fun q => h2 q.2)]
      simp (disch := omega) only [e_137, w_137_0, w_137_1, w_137_2, w_137_3, w_137_4, w_137_5, w_137_6, w_137_7, w_137_8, w_137_9, w_137_10, w_137_11, w_137_12, w_137_13, w_137_14, w_137_15, w_137_16, w_137_17, w_137_18, w_137_19, w_137_20, w_137_21, w_137_22, w_137_23, w_137_24, w_137_26, w_137_27, w_137_28, w_137_29, w_137_30, w_137_31, w_137_32, w_137_33, w_137_34, w_137_35, w_137_36, w_137_37, w_137_38, w_137_39, w_137_40, w_137_41, w_137_42, w_137_43, w_137_44, w_137_45, w_137_46, w_137_47, w_137_48, w_137_49, w_137_50, w_137_51, w_137_52, w_137_53, w_137_54, w_137_55, w_137_56, w_137_57, w_137_58, w_137_59, w_137_60, getK, putK, ialK, iasK, aalK, aasK, alnK, zgt_u, zgt_a, Option.toList_some, Option.toList_none, List.cons_append, List.nil_append, List.map_cons, List.map_nil, List.replicate, ite_true, ite_false, if_true, if_false, List.getElem?_cons_zero, List.getElem?_cons_succ, List.set_cons_zero, List.set_cons_succ, true_and, and_true, beq_self_eq_true, zite, Int.toNat_natCast, if_pos, if_neg, zwr_id, zand, s_isGroup6, zb_eq, zb_ne, h0, and_self, not_true]
  · rw [if_neg (fun q => h0 q.1)]
    simp (disch := omega) only [e_137, w_137_0, w_137_1, w_137_2, w_137_3, w_137_4, w_137_5, w_137_6, w_137_7, w_137_8, w_137_9, w_137_10, w_137_11, w_137_12, w_137_13, w_137_14, w_137_15, w_137_16, w_137_17, w_137_18, w_137_19, w_137_20, w_137_21, w_137_22, w_137_23, w_137_24, w_137_26, w_137_27, w_137_28, w_137_29, w_137_30, w_137_31, w_137_32, w_137_33, w_137_34, w_137_35, w_137_36, w_137_37, w_137_38, w_137_39, w_137_40, w_137_41, w_137_42, w_137_43, w_137_44, w_137_45, w_137_46, w_137_47, w_137_48, w_137_49, w_137_50, w_137_51, w_137_52, w_137_53, w_137_54, w_137_55, w_137_56, w_137_57, w_137_58, w_137_59, w_137_60, getK, putK, ialK, iasK, aalK, aasK, alnK, zgt_u, zgt_a, Option.toList_some, Option.toList_none, List.cons_append, List.nil_append, List.map_cons, List.map_nil, List.replicate, ite_true, ite_false, if_true, if_false, List.getElem?_cons_zero, List.getElem?_cons_succ, List.set_cons_zero, List.set_cons_succ, true_and, and_true, beq_self_eq_true, zite, Int.toNat_natCast, if_pos, if_neg, zwr_id, zand, s_isGroup6, zb_eq, zb_ne, h0, not_false_eq_true]
end
