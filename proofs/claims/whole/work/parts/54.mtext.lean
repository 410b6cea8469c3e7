/-! THE MODEL'S TEXT READ -/
theorem eA_zb {T : Int → Int} {i c : Int} : zb (eA T i c = true) = zb (enT T (i + 1) (nd c).toNat = c) := zb_cg (by unfold eA; rw [decide_eq_true_eq])
def mX (h : zH) (pm fl p n : Int) (w T : Int → Int) : Prop := zgt h 24 = .inl (6, [.inr (.inl (some 25)), .inr (.inl (some 26)), .inl (pm), .inr (.inl (some 27)), .inl ( fl), .inl ( p), .inr (.inl (some 28)), .inl ( n), .inr (.inl (some 29)), .inr (.inl (some 30)), .inr (.inl (some 31))]) ∧ zgt h 25 = .inr (.inl (437, w)) ∧ zgt h 28 = .inr (.inl (60, T))
def lvO (w : Int → Int) (L : List zI) : Prop := rL w L ∧ L.length ≤ 24 ∧ srtL L ∧ okIs L
section
variable {sc : Nat × (Int → Int)} {h : zH} {Q : Option zV → zH → Prop} {pm fl p n : Int} {w : Int → Int} {T : Int → Int} {L : List zI}
theorem lp_endsAt {c i : Int} (hO : zgt h 24 = .inl (6, [.inr (.inl (some 25)), .inr (.inl (some 26)), .inl (pm), .inr (.inl (some 27)), .inl ( fl), .inl ( p), .inr (.inl (some 28)), .inl ( n), .inr (.inl (some 29)), .inr (.inl (some 30)), .inr (.inl (some 31))])) (hX : zgt h 28 = .inr (.inl (60, T))) (hT : okT T n) : ∀ (m : Nat) (left k : Int), left.toNat ≤ m → 0 ≤ left → k < n → -100 ≤ k + m → zwp sc 125 4 [some (.inr (.inl (some 24))), some (.inl c), some (.inl i), some (.inl left), some (.inl k)] [] h Q = Q (some (.inl (zb (eA T k left = true)))) h := by
  have h60 := hT.2.1
  intro m
  induction m with
  | zero =>
    intro left k h1 h0 hk hkm
    have e : left = 0 := by omega
    subst e
    rw [w_125_4, zb_t eA_0]
    simp (disch := omega) only [e_125, w_125_0, w_125_1, w_125_2, w_125_3, w_125_5, w_125_6, w_125_7, w_125_8, w_125_9, w_125_10, w_125_11, w_125_12, w_125_13, w_125_14, w_125_15, w_125_16, w_125_17, w_125_18, w_125_19, w_125_20, w_125_21, w_125_22, w_125_23, w_125_24, w_125_25, w_125_26, w_125_27, w_125_28, w_125_29, getK, putK, ialK, iasK, aalK, aasK, alnK, zgt_u, zgt_a, Option.toList_some, Option.toList_none, List.cons_append, List.nil_append, List.map_cons, List.map_nil, List.replicate, ite_true, ite_false, if_true, if_false, List.getElem?_cons_zero, List.getElem?_cons_succ, List.set_cons_zero, List.set_cons_succ, true_and, and_true, beq_self_eq_true, zite, Int.toNat_natCast, if_pos, if_neg, zwr_id, zand, hO, hX, true_or, or_true]
  | succ m ih =>
    intro left k h1 h0 hk hkm
    by_cases hp : 0 < left
    · have he := eA_p hT hk hp
      rw [w_125_4]
      by_cases c1 : 0 ≤ k
      · by_cases c2 : T k = left % 10 - 1
        · rw [show zb (eA T k left = true) = zb (eA T (k - 1) (left / 10) = true) from zb_cg (by rw [he]; exact ⟨fun q => q.2.2, fun q => ⟨c1, c2, q⟩⟩)]
          simp (disch := omega) only [e_125, w_125_0, w_125_1, w_125_2, w_125_3, w_125_5, w_125_6, w_125_7, w_125_8, w_125_9, w_125_10, w_125_11, w_125_12, w_125_13, w_125_14, w_125_15, w_125_16, w_125_17, w_125_18, w_125_19, w_125_20, w_125_21, w_125_22, w_125_23, w_125_24, w_125_25, w_125_26, w_125_27, w_125_28, w_125_29, getK, putK, ialK, iasK, aalK, aasK, alnK, zgt_u, zgt_a, Option.toList_some, Option.toList_none, List.cons_append, List.nil_append, List.map_cons, List.map_nil, List.replicate, ite_true, ite_false, if_true, if_false, List.getElem?_cons_zero, List.getElem?_cons_succ, List.set_cons_zero, List.set_cons_succ, true_and, and_true, beq_self_eq_true, zite, Int.toNat_natCast, if_pos, if_neg, zwr_id, zand, hO, hX, c2]
          exact ih (left / 10) (k - 1) (by omega) (by omega) (by omega) (by omega)
        · rw [zb_f (fun q => c2 (he.mp q).2.1)]
          simp (disch := omega) only [e_125, w_125_0, w_125_1, w_125_2, w_125_3, w_125_5, w_125_6, w_125_7, w_125_8, w_125_9, w_125_10, w_125_11, w_125_12, w_125_13, w_125_14, w_125_15, w_125_16, w_125_17, w_125_18, w_125_19, w_125_20, w_125_21, w_125_22, w_125_23, w_125_24, w_125_25, w_125_26, w_125_27, w_125_28, w_125_29, getK, putK, ialK, iasK, aalK, aasK, alnK, zgt_u, zgt_a, Option.toList_some, Option.toList_none, List.cons_append, List.nil_append, List.map_cons, List.map_nil, List.replicate, ite_true, ite_false, if_true, if_false, List.getElem?_cons_zero, List.getElem?_cons_succ, List.set_cons_zero, List.set_cons_succ, true_and, and_true, beq_self_eq_true, zite, Int.toNat_natCast, if_pos, if_neg, zwr_id, zand, hO, hX, true_or, or_true]
      · rw [zb_f (fun q => c1 (he.mp q).1)]
        simp (disch := omega) only [e_125, w_125_0, w_125_1, w_125_2, w_125_3, w_125_5, w_125_6, w_125_7, w_125_8, w_125_9, w_125_10, w_125_11, w_125_12, w_125_13, w_125_14, w_125_15, w_125_16, w_125_17, w_125_18, w_125_19, w_125_20, w_125_21, w_125_22, w_125_23, w_125_24, w_125_25, w_125_26, w_125_27, w_125_28, w_125_29, getK, putK, ialK, iasK, aalK, aasK, alnK, zgt_u, zgt_a, Option.toList_some, Option.toList_none, List.cons_append, List.nil_append, List.map_cons, List.map_nil, List.replicate, ite_true, ite_false, if_true, if_false, List.getElem?_cons_zero, List.getElem?_cons_succ, List.set_cons_zero, List.set_cons_succ, true_and, and_true, beq_self_eq_true, zite, Int.toNat_natCast, if_pos, if_neg, zwr_id, zand, hO, hX, true_or, or_true]
    · have e : left = 0 := by omega
      subst e
      rw [w_125_4, zb_t eA_0]
      simp (disch := omega) only [e_125, w_125_0, w_125_1, w_125_2, w_125_3, w_125_5, w_125_6, w_125_7, w_125_8, w_125_9, w_125_10, w_125_11, w_125_12, w_125_13, w_125_14, w_125_15, w_125_16, w_125_17, w_125_18, w_125_19, w_125_20, w_125_21, w_125_22, w_125_23, w_125_24, w_125_25, w_125_26, w_125_27, w_125_28, w_125_29, getK, putK, ialK, iasK, aalK, aasK, alnK, zgt_u, zgt_a, Option.toList_some, Option.toList_none, List.cons_append, List.nil_append, List.map_cons, List.map_nil, List.replicate, ite_true, ite_false, if_true, if_false, List.getElem?_cons_zero, List.getElem?_cons_succ, List.set_cons_zero, List.set_cons_succ, true_and, and_true, beq_self_eq_true, zite, Int.toNat_natCast, if_pos, if_neg, zwr_id, zand, hO, hX, true_or, or_true]
theorem mX_rc (hX : mX h pm fl p n w T) {as : List zV} : zrecv h 6 (.inr (.inl (some 24)) :: as) = true := zrc hX.1
theorem s6_endsAt {c i : Int} (hX : mX h pm fl p n w T) (hT : okT T n) (hc : 0 ≤ c ∧ c ≤ 999999) (hi : -1 ≤ i ∧ i < n) : zca sc 125 [.inr (.inl (some 24)), .inl c, .inl i] h Q = Q (some (.inl (zb (eA T i c = true)))) h := by
  simp (disch := omega) only [e_125, w_125_0, w_125_1, w_125_2, w_125_3, w_125_5, w_125_6, w_125_7, w_125_8, w_125_9, w_125_10, w_125_11, w_125_12, w_125_13, w_125_14, w_125_15, w_125_16, w_125_17, w_125_18, w_125_19, w_125_20, w_125_21, w_125_22, w_125_23, w_125_24, w_125_25, w_125_26, w_125_27, w_125_28, w_125_29, getK, putK, ialK, iasK, aalK, aasK, alnK, zgt_u, zgt_a, Option.toList_some, Option.toList_none, List.cons_append, List.nil_append, List.map_cons, List.map_nil, List.replicate, ite_true, ite_false, if_true, if_false, List.getElem?_cons_zero, List.getElem?_cons_succ, List.set_cons_zero, List.set_cons_succ, true_and, and_true, beq_self_eq_true, zite, Int.toNat_natCast, if_pos, if_neg, zwr_id, zand]
  exact lp_endsAt hX.1 hX.2.2 hT c.toNat c i (Nat.le_refl _) hc.1 hi.2 (by omega)
theorem lp_matchesOf {c : Int} (hX : mX h pm fl p n w T) (hT : okT T n) (hc : 0 ≤ c ∧ c ≤ 999999) : ∀ (j : Nat) (i a : Int), i + j = n → 0 ≤ i → 0 ≤ a → a ≤ i → zwp sc 126 4 [some (.inr (.inl (some 24))), some (.inl c), some (.inl a), some (.inl i)] [] h Q = Q (some (.inl (a + sumF (fun i => zb (enT T (i + 1) (nd c).toNat = c)) j i))) h := by
  have h60 := hT.2.1
  have hO := hX.1
  intro j
  induction j with
  | zero =>
    intro i a hi h0 ha hai
    rw [w_126_4]
    simp (disch := omega) only [e_126, w_126_0, w_126_1, w_126_2, w_126_3, w_126_5, w_126_6, w_126_7, w_126_8, w_126_9, w_126_10, w_126_11, w_126_12, w_126_13, w_126_14, w_126_15, w_126_16, w_126_17, w_126_18, w_126_19, w_126_20, w_126_21, w_126_22, getK, putK, ialK, iasK, aalK, aasK, alnK, zgt_u, zgt_a, Option.toList_some, Option.toList_none, List.cons_append, List.nil_append, List.map_cons, List.map_nil, List.replicate, ite_true, ite_false, if_true, if_false, List.getElem?_cons_zero, List.getElem?_cons_succ, List.set_cons_zero, List.set_cons_succ, true_and, and_true, beq_self_eq_true, zite, Int.toNat_natCast, if_pos, if_neg, zwr_id, zand, hO]
    unfold sumF
    rw [Int.add_zero]
  | succ j ih =>
    intro i a hi h0 ha hai
    rw [w_126_4]
    unfold sumF
    rw [← eA_zb]
    by_cases c1 : eA T i c = true
    · rw [zb_t c1]
      simp (disch := omega) only [e_126, w_126_0, w_126_1, w_126_2, w_126_3, w_126_5, w_126_6, w_126_7, w_126_8, w_126_9, w_126_10, w_126_11, w_126_12, w_126_13, w_126_14, w_126_15, w_126_16, w_126_17, w_126_18, w_126_19, w_126_20, w_126_21, w_126_22, getK, putK, ialK, iasK, aalK, aasK, alnK, zgt_u, zgt_a, Option.toList_some, Option.toList_none, List.cons_append, List.nil_append, List.map_cons, List.map_nil, List.replicate, ite_true, ite_false, if_true, if_false, List.getElem?_cons_zero, List.getElem?_cons_succ, List.set_cons_zero, List.set_cons_succ, true_and, and_true, beq_self_eq_true, zite, Int.toNat_natCast, if_pos, if_neg, zwr_id, zand, hO, mX_rc hX, s6_endsAt hX hT hc, zb_eq, c1, not_true]
      rw [ih (i + 1) (a + 1) (by omega) (by omega) (by omega) (by omega), Int.add_assoc]
    · rw [zb_f c1]
      simp (disch := omega) only [e_126, w_126_0, w_126_1, w_126_2, w_126_3, w_126_5, w_126_6, w_126_7, w_126_8, w_126_9, w_126_10, w_126_11, w_126_12, w_126_13, w_126_14, w_126_15, w_126_16, w_126_17, w_126_18, w_126_19, w_126_20, w_126_21, w_126_22, getK, putK, ialK, iasK, aalK, aasK, alnK, zgt_u, zgt_a, Option.toList_some, Option.toList_none, List.cons_append, List.nil_append, List.map_cons, List.map_nil, List.replicate, ite_true, ite_false, if_true, if_false, List.getElem?_cons_zero, List.getElem?_cons_succ, List.set_cons_zero, List.set_cons_succ, true_and, and_true, beq_self_eq_true, zite, Int.toNat_natCast, if_pos, if_neg, zwr_id, zand, hO, mX_rc hX, s6_endsAt hX hT hc, zb_f c1]
      rw [ih (i + 1) (a + 0) (by omega) (by omega) (by omega) (by omega), Int.add_assoc]
theorem s6_matchesOf {c : Int} (hX : mX h pm fl p n w T) (hT : okT T n) (hc : 0 ≤ c ∧ c ≤ 999999) : zca sc 126 [.inr (.inl (some 24)), .inl c] h Q = Q (some (.inl (occ T n c))) h := by
  have := hT.1
  simp (disch := omega) only [e_126, w_126_0, w_126_1, w_126_2, w_126_3, w_126_5, w_126_6, w_126_7, w_126_8, w_126_9, w_126_10, w_126_11, w_126_12, w_126_13, w_126_14, w_126_15, w_126_16, w_126_17, w_126_18, w_126_19, w_126_20, w_126_21, w_126_22, getK, putK, ialK, iasK, aalK, aasK, alnK, zgt_u, zgt_a, Option.toList_some, Option.toList_none, List.cons_append, List.nil_append, List.map_cons, List.map_nil, List.replicate, ite_true, ite_false, if_true, if_false, List.getElem?_cons_zero, List.getElem?_cons_succ, List.set_cons_zero, List.set_cons_succ, true_and, and_true, beq_self_eq_true, zite, Int.toNat_natCast, if_pos, if_neg, zwr_id, zand]
  rw [lp_matchesOf hX hT hc n.toNat 0 0 (by omega) (by omega) (by omega) (by omega), Int.zero_add]
  rfl
theorem lp_endings {i : Int} (hX : mX h pm fl p n w T) (hT : okT T n) (hV : lvO w L) (hi : 0 ≤ i ∧ i < n) : ∀ (B A : List zI) (a : Int), L = A ++ B → 0 ≤ a → a ≤ A.length → zwp sc 138 4 [some (.inr (.inl (some 24))), some (.inl i), some (.inl a), some (.inl (A.length : Int))] [] h Q = Q (some (.inl (a + (fE T i B).length))) h := by
  obtain ⟨hO, hW, -⟩ := id hX
  obtain ⟨hL, hl, hs, ho⟩ := hV
  intro B
  induction B with
  | nil =>
    intro A a e ha ha2
    rw [List.append_nil] at e
    subst e
    have hw := hL.1
    rw [w_138_4]
    simp (disch := omega) only [e_138, w_138_0, w_138_1, w_138_2, w_138_3, w_138_5, w_138_6, w_138_7, w_138_8, w_138_9, w_138_10, w_138_11, w_138_12, w_138_13, w_138_14, w_138_15, w_138_16, w_138_17, w_138_18, w_138_19, w_138_20, w_138_21, w_138_22, w_138_23, w_138_24, w_138_25, w_138_26, w_138_27, w_138_28, w_138_29, getK, putK, ialK, iasK, aalK, aasK, alnK, zgt_u, zgt_a, Option.toList_some, Option.toList_none, List.cons_append, List.nil_append, List.map_cons, List.map_nil, List.replicate, ite_true, ite_false, if_true, if_false, List.getElem?_cons_zero, List.getElem?_cons_succ, List.set_cons_zero, List.set_cons_succ, true_and, and_true, beq_self_eq_true, zite, Int.toNat_natCast, if_pos, if_neg, zwr_id, zand, hO, hW, hw]
    simp [fE]
  | cons x B ih =>
    intro A a e ha ha2
    have hw := hL.1
    have hlen : L.length = A.length + (B.length + 1) := by rw [e]; simp
    have hxo := (ho x (by rw [e]; simp)).2.2.1
    have hx := (hL.2 A.length (by omega) (by omega)).1
    rw [e, gI_app] at hx
    have ih := fun a => ih (A ++ [x]) a (by rw [e]; simp)
    rw [List.length_append, List.length_singleton, show ((A.length + 1 : Nat) : Int) = (A.length : Int) + 1 by omega] at ih
    have hxr : 0 ≤ x.2.1 ∧ x.2.1 ≤ 999999 := by unfold wd at hxo; omega
    rw [w_138_4, fE_c]
    by_cases c1 : eA T i x.2.1 = true
    · simp (disch := omega) only [e_138, w_138_0, w_138_1, w_138_2, w_138_3, w_138_5, w_138_6, w_138_7, w_138_8, w_138_9, w_138_10, w_138_11, w_138_12, w_138_13, w_138_14, w_138_15, w_138_16, w_138_17, w_138_18, w_138_19, w_138_20, w_138_21, w_138_22, w_138_23, w_138_24, w_138_25, w_138_26, w_138_27, w_138_28, w_138_29, getK, putK, ialK, iasK, aalK, aasK, alnK, zgt_u, zgt_a, Option.toList_some, Option.toList_none, List.cons_append, List.nil_append, List.map_cons, List.map_nil, List.replicate, ite_true, ite_false, if_true, if_false, List.getElem?_cons_zero, List.getElem?_cons_succ, List.set_cons_zero, List.set_cons_succ, true_and, and_true, beq_self_eq_true, zite, Int.toNat_natCast, if_pos, if_neg, zwr_id, zand, hO, hW, hw, hx, mX_rc hX, s6_endsAt hX hT hxr, zb_t c1]
      rw [ih (a + 1) (by omega) (by omega), List.length_cons, show a + 1 + ((fE T i B).length : Int) = a + (((fE T i B).length + 1 : Nat) : Int) by omega]
    · simp (disch := omega) only [e_138, w_138_0, w_138_1, w_138_2, w_138_3, w_138_5, w_138_6, w_138_7, w_138_8, w_138_9, w_138_10, w_138_11, w_138_12, w_138_13, w_138_14, w_138_15, w_138_16, w_138_17, w_138_18, w_138_19, w_138_20, w_138_21, w_138_22, w_138_23, w_138_24, w_138_25, w_138_26, w_138_27, w_138_28, w_138_29, getK, putK, ialK, iasK, aalK, aasK, alnK, zgt_u, zgt_a, Option.toList_some, Option.toList_none, List.cons_append, List.nil_append, List.map_cons, List.map_nil, List.replicate, ite_true, ite_false, if_true, if_false, List.getElem?_cons_zero, List.getElem?_cons_succ, List.set_cons_zero, List.set_cons_succ, true_and, and_true, beq_self_eq_true, zite, Int.toNat_natCast, if_pos, if_neg, zwr_id, zand, hO, hW, hw, hx, mX_rc hX, s6_endsAt hX hT hxr, zb_f c1]
      rw [ih (a + 0) (by omega) (by omega), Int.add_zero]
theorem s6_endings {i : Int} (hX : mX h pm fl p n w T) (hT : okT T n) (hV : lvO w L) (hi : 0 ≤ i ∧ i < n) : zca sc 138 [.inr (.inl (some 24)), .inl i] h Q = Q (some (.inl ((fE T i L).length : Int))) h := by
  simp (disch := omega) only [e_138, w_138_0, w_138_1, w_138_2, w_138_3, w_138_5, w_138_6, w_138_7, w_138_8, w_138_9, w_138_10, w_138_11, w_138_12, w_138_13, w_138_14, w_138_15, w_138_16, w_138_17, w_138_18, w_138_19, w_138_20, w_138_21, w_138_22, w_138_23, w_138_24, w_138_25, w_138_26, w_138_27, w_138_28, w_138_29, getK, putK, ialK, iasK, aalK, aasK, alnK, zgt_u, zgt_a, Option.toList_some, Option.toList_none, List.cons_append, List.nil_append, List.map_cons, List.map_nil, List.replicate, ite_true, ite_false, if_true, if_false, List.getElem?_cons_zero, List.getElem?_cons_succ, List.set_cons_zero, List.set_cons_succ, true_and, and_true, beq_self_eq_true, zite, Int.toNat_natCast, if_pos, if_neg, zwr_id, zand]
  have := lp_endings (sc := sc) (Q := Q) hX hT hV hi L [] 0 rfl (Int.le_refl _) (by simp)
  rw [Int.zero_add] at this
  exact this
theorem lp_weightAtP {i : Int} (hX : mX h pm fl p n w T) (hT : okT T n) (hV : lvO w L) (hi : 0 ≤ i ∧ i < n) : ∀ (B A : List zI) (a : Int), L = A ++ B → -99 * (A.length : Int) ≤ a → a ≤ 99 * A.length → zwp sc 139 4 [some (.inr (.inl (some 24))), some (.inl i), some (.inl a), some (.inl (A.length : Int))] [] h Q = Q (some (.inl (a + wsum (fE T i B)))) h := by
  obtain ⟨hO, hW, -⟩ := id hX
  obtain ⟨hL, hl, hs, ho⟩ := hV
  intro B
  induction B with
  | nil =>
    intro A a e ha ha2
    rw [List.append_nil] at e
    subst e
    have hw := hL.1
    rw [w_139_4]
    simp (disch := omega) only [e_139, w_139_0, w_139_1, w_139_2, w_139_3, w_139_5, w_139_6, w_139_7, w_139_8, w_139_9, w_139_10, w_139_11, w_139_12, w_139_13, w_139_14, w_139_15, w_139_16, w_139_17, w_139_18, w_139_19, w_139_20, w_139_21, w_139_22, w_139_23, w_139_24, w_139_25, w_139_26, w_139_27, w_139_28, w_139_29, w_139_30, w_139_31, w_139_32, w_139_33, w_139_34, getK, putK, ialK, iasK, aalK, aasK, alnK, zgt_u, zgt_a, Option.toList_some, Option.toList_none, List.cons_append, List.nil_append, List.map_cons, List.map_nil, List.replicate, ite_true, ite_false, if_true, if_false, List.getElem?_cons_zero, List.getElem?_cons_succ, List.set_cons_zero, List.set_cons_succ, true_and, and_true, beq_self_eq_true, zite, Int.toNat_natCast, if_pos, if_neg, zwr_id, zand, hO, hW, hw]
    simp [fE, wsum]
  | cons x B ih =>
    intro A a e ha ha2
    have hw := hL.1
    have hlen : L.length = A.length + (B.length + 1) := by rw [e]; simp
    have hxo := (ho x (by rw [e]; simp)).2.2.1
    have hxw := (ho x (by rw [e]; simp)).2.2.2
    obtain ⟨hx, hy⟩ := hL.2 A.length (by omega) (by omega)
    rw [e, gI_app] at hx hy
    have ih := fun a => ih (A ++ [x]) a (by rw [e]; simp)
    rw [List.length_append, List.length_singleton, show ((A.length + 1 : Nat) : Int) = (A.length : Int) + 1 by omega] at ih
    have hxr : 0 ≤ x.2.1 ∧ x.2.1 ≤ 999999 := by unfold wd at hxo; omega
    rw [w_139_4, fE_c]
    by_cases c1 : eA T i x.2.1 = true
    · simp (disch := omega) only [e_139, w_139_0, w_139_1, w_139_2, w_139_3, w_139_5, w_139_6, w_139_7, w_139_8, w_139_9, w_139_10, w_139_11, w_139_12, w_139_13, w_139_14, w_139_15, w_139_16, w_139_17, w_139_18, w_139_19, w_139_20, w_139_21, w_139_22, w_139_23, w_139_24, w_139_25, w_139_26, w_139_27, w_139_28, w_139_29, w_139_30, w_139_31, w_139_32, w_139_33, w_139_34, getK, putK, ialK, iasK, aalK, aasK, alnK, zgt_u, zgt_a, Option.toList_some, Option.toList_none, List.cons_append, List.nil_append, List.map_cons, List.map_nil, List.replicate, ite_true, ite_false, if_true, if_false, List.getElem?_cons_zero, List.getElem?_cons_succ, List.set_cons_zero, List.set_cons_succ, true_and, and_true, beq_self_eq_true, zite, Int.toNat_natCast, if_pos, if_neg, zwr_id, zand, hO, hW, hw, hx, hy, mX_rc hX, s6_endsAt hX hT hxr, zb_t c1]
      rw [ih (a + x.2.2) (by omega) (by omega)]
      show _ = Q (some (.inl (a + (x.2.2 + wsum _)))) h
      rw [Int.add_assoc]
    · simp (disch := omega) only [e_139, w_139_0, w_139_1, w_139_2, w_139_3, w_139_5, w_139_6, w_139_7, w_139_8, w_139_9, w_139_10, w_139_11, w_139_12, w_139_13, w_139_14, w_139_15, w_139_16, w_139_17, w_139_18, w_139_19, w_139_20, w_139_21, w_139_22, w_139_23, w_139_24, w_139_25, w_139_26, w_139_27, w_139_28, w_139_29, w_139_30, w_139_31, w_139_32, w_139_33, w_139_34, getK, putK, ialK, iasK, aalK, aasK, alnK, zgt_u, zgt_a, Option.toList_some, Option.toList_none, List.cons_append, List.nil_append, List.map_cons, List.map_nil, List.replicate, ite_true, ite_false, if_true, if_false, List.getElem?_cons_zero, List.getElem?_cons_succ, List.set_cons_zero, List.set_cons_succ, true_and, and_true, beq_self_eq_true, zite, Int.toNat_natCast, if_pos, if_neg, zwr_id, zand, hO, hW, hw, hx, mX_rc hX, s6_endsAt hX hT hxr, zb_f c1]
      rw [ih (a + 0) (by omega) (by omega), Int.add_zero]
theorem s6_weightAtP {i : Int} (hX : mX h pm fl p n w T) (hT : okT T n) (hV : lvO w L) (hi : 0 ≤ i ∧ i < n) : zca sc 139 [.inr (.inl (some 24)), .inl i] h Q = Q (some (.inl (wsum (fE T i L)))) h := by
  simp (disch := omega) only [e_139, w_139_0, w_139_1, w_139_2, w_139_3, w_139_5, w_139_6, w_139_7, w_139_8, w_139_9, w_139_10, w_139_11, w_139_12, w_139_13, w_139_14, w_139_15, w_139_16, w_139_17, w_139_18, w_139_19, w_139_20, w_139_21, w_139_22, w_139_23, w_139_24, w_139_25, w_139_26, w_139_27, w_139_28, w_139_29, w_139_30, w_139_31, w_139_32, w_139_33, w_139_34, getK, putK, ialK, iasK, aalK, aasK, alnK, zgt_u, zgt_a, Option.toList_some, Option.toList_none, List.cons_append, List.nil_append, List.map_cons, List.map_nil, List.replicate, ite_true, ite_false, if_true, if_false, List.getElem?_cons_zero, List.getElem?_cons_succ, List.set_cons_zero, List.set_cons_succ, true_and, and_true, beq_self_eq_true, zite, Int.toNat_natCast, if_pos, if_neg, zwr_id, zand]
  have := lp_weightAtP (sc := sc) (Q := Q) hX hT hV hi L [] 0 rfl (by simp) (by simp)
  rw [Int.zero_add] at this
  exact this
theorem lp_longestAt6 {i : Int} (hX : mX h pm fl p n w T) (hT : okT T n) (hV : lvO w L) (hi : 0 ≤ i ∧ i < n) : ∀ (B A : List zI) (b : Int) (l4 : Option zV), L = A ++ B → zwp sc 140 4 [some (.inr (.inl (some 24))), some (.inl i), some (.inl b), some (.inl (A.length : Int)), l4] [] h Q = Q (some (.inl (lgB T i B b))) h := by
  obtain ⟨hO, hW, -⟩ := id hX
  obtain ⟨hL, hl, hs, ho⟩ := hV
  intro B
  induction B with
  | nil =>
    intro A b l4 e
    rw [List.append_nil] at e
    subst e
    have hw := hL.1
    rw [w_140_4]
    simp (disch := omega) only [e_140, w_140_0, w_140_1, w_140_2, w_140_3, w_140_5, w_140_6, w_140_7, w_140_8, w_140_9, w_140_10, w_140_11, w_140_12, w_140_13, w_140_14, w_140_15, w_140_16, w_140_17, w_140_18, w_140_19, w_140_20, w_140_21, w_140_22, w_140_23, w_140_24, w_140_25, w_140_26, w_140_27, w_140_28, w_140_29, w_140_30, w_140_31, w_140_32, w_140_33, w_140_34, w_140_35, w_140_36, w_140_37, w_140_38, w_140_39, w_140_40, w_140_41, w_140_42, w_140_43, w_140_44, w_140_45, w_140_46, w_140_47, w_140_48, w_140_49, getK, putK, ialK, iasK, aalK, aasK, alnK, zgt_u, zgt_a, Option.toList_some, Option.toList_none, List.cons_append, List.nil_append, List.map_cons, List.map_nil, List.replicate, ite_true, ite_false, if_true, if_false, List.getElem?_cons_zero, List.getElem?_cons_succ, List.set_cons_zero, List.set_cons_succ, true_and, and_true, beq_self_eq_true, zite, Int.toNat_natCast, if_pos, if_neg, zwr_id, zand, hO, hW, hw]
    rfl
  | cons x B ih =>
    intro A b l4 e
    have hw := hL.1
    have hlen : L.length = A.length + (B.length + 1) := by rw [e]; simp
    have hxo := (ho x (by rw [e]; simp)).2.2.1
    obtain ⟨hx, hy⟩ := hL.2 A.length (by omega) (by omega)
    rw [e, gI_app] at hx hy
    have ih := fun b l4 => ih (A ++ [x]) b l4 (by rw [e]; simp)
    rw [List.length_append, List.length_singleton, show ((A.length + 1 : Nat) : Int) = (A.length : Int) + 1 by omega] at ih
    have hxr : 0 ≤ x.2.1 ∧ x.2.1 ≤ 999999 := by unfold wd at hxo; omega
    rw [w_140_4]
    unfold lgB
    by_cases c1 : eA T i x.2.1 = true
    · by_cases c2 : b = -9999
      · rw [if_pos ⟨c1, Or.inl c2⟩]
        simp (disch := omega) only [e_140, w_140_0, w_140_1, w_140_2, w_140_3, w_140_5, w_140_6, w_140_7, w_140_8, w_140_9, w_140_10, w_140_11, w_140_12, w_140_13, w_140_14, w_140_15, w_140_16, w_140_17, w_140_18, w_140_19, w_140_20, w_140_21, w_140_22, w_140_23, w_140_24, w_140_25, w_140_26, w_140_27, w_140_28, w_140_29, w_140_30, w_140_31, w_140_32, w_140_33, w_140_34, w_140_35, w_140_36, w_140_37, w_140_38, w_140_39, w_140_40, w_140_41, w_140_42, w_140_43, w_140_44, w_140_45, w_140_46, w_140_47, w_140_48, w_140_49, getK, putK, ialK, iasK, aalK, aasK, alnK, zgt_u, zgt_a, Option.toList_some, Option.toList_none, List.cons_append, List.nil_append, List.map_cons, List.map_nil, List.replicate, ite_true, ite_false, if_true, if_false, List.getElem?_cons_zero, List.getElem?_cons_succ, List.set_cons_zero, List.set_cons_succ, true_and, and_true, beq_self_eq_true, zite, Int.toNat_natCast, if_pos, if_neg, zwr_id, zand, hO, hW, hw, hx, mX_rc hX, s6_endsAt hX hT hxr, zb_t c1, ih]
      · by_cases c3 : b < x.2.1
        · rw [if_pos ⟨c1, Or.inr c3⟩]
          simp (disch := omega) only [e_140, w_140_0, w_140_1, w_140_2, w_140_3, w_140_5, w_140_6, w_140_7, w_140_8, w_140_9, w_140_10, w_140_11, w_140_12, w_140_13, w_140_14, w_140_15, w_140_16, w_140_17, w_140_18, w_140_19, w_140_20, w_140_21, w_140_22, w_140_23, w_140_24, w_140_25, w_140_26, w_140_27, w_140_28, w_140_29, w_140_30, w_140_31, w_140_32, w_140_33, w_140_34, w_140_35, w_140_36, w_140_37, w_140_38, w_140_39, w_140_40, w_140_41, w_140_42, w_140_43, w_140_44, w_140_45, w_140_46, w_140_47, w_140_48, w_140_49, getK, putK, ialK, iasK, aalK, aasK, alnK, zgt_u, zgt_a, Option.toList_some, Option.toList_none, List.cons_append, List.nil_append, List.map_cons, List.map_nil, List.replicate, ite_true, ite_false, if_true, if_false, List.getElem?_cons_zero, List.getElem?_cons_succ, List.set_cons_zero, List.set_cons_succ, true_and, and_true, beq_self_eq_true, zite, Int.toNat_natCast, if_pos, if_neg, zwr_id, zand, hO, hW, hw, hx, mX_rc hX, s6_endsAt hX hT hxr, zb_t c1, ih]
        · rw [if_neg (fun q => q.2.elim c2 c3)]
          simp (disch := omega) only [e_140, w_140_0, w_140_1, w_140_2, w_140_3, w_140_5, w_140_6, w_140_7, w_140_8, w_140_9, w_140_10, w_140_11, w_140_12, w_140_13, w_140_14, w_140_15, w_140_16, w_140_17, w_140_18, w_140_19, w_140_20, w_140_21, w_140_22, w_140_23, w_140_24, w_140_25, w_140_26, w_140_27, w_140_28, w_140_29, w_140_30, w_140_31, w_140_32, w_140_33, w_140_34, w_140_35, w_140_36, w_140_37, w_140_38, w_140_39, w_140_40, w_140_41, w_140_42, w_140_43, w_140_44, w_140_45, w_140_46, w_140_47, w_140_48, w_140_49, getK, putK, ialK, iasK, aalK, aasK, alnK, zgt_u, zgt_a, Option.toList_some, Option.toList_none, List.cons_append, List.nil_append, List.map_cons, List.map_nil, List.replicate, ite_true, ite_false, if_true, if_false, List.getElem?_cons_zero, List.getElem?_cons_succ, List.set_cons_zero, List.set_cons_succ, true_and, and_true, beq_self_eq_true, zite, Int.toNat_natCast, if_pos, if_neg, zwr_id, zand, hO, hW, hw, hx, mX_rc hX, s6_endsAt hX hT hxr, zb_t c1, ih]
    · rw [if_neg (fun q => c1 q.1)]
      simp (disch := omega) only [e_140, w_140_0, w_140_1, w_140_2, w_140_3, w_140_5, w_140_6, w_140_7, w_140_8, w_140_9, w_140_10, w_140_11, w_140_12, w_140_13, w_140_14, w_140_15, w_140_16, w_140_17, w_140_18, w_140_19, w_140_20, w_140_21, w_140_22, w_140_23, w_140_24, w_140_25, w_140_26, w_140_27, w_140_28, w_140_29, w_140_30, w_140_31, w_140_32, w_140_33, w_140_34, w_140_35, w_140_36, w_140_37, w_140_38, w_140_39, w_140_40, w_140_41, w_140_42, w_140_43, w_140_44, w_140_45, w_140_46, w_140_47, w_140_48, w_140_49, getK, putK, ialK, iasK, aalK, aasK, alnK, zgt_u, zgt_a, Option.toList_some, Option.toList_none, List.cons_append, List.nil_append, List.map_cons, List.map_nil, List.replicate, ite_true, ite_false, if_true, if_false, List.getElem?_cons_zero, List.getElem?_cons_succ, List.set_cons_zero, List.set_cons_succ, true_and, and_true, beq_self_eq_true, zite, Int.toNat_natCast, if_pos, if_neg, zwr_id, zand, hO, hW, hw, hx, mX_rc hX, s6_endsAt hX hT hxr, zb_f c1, ih]
theorem s6_longestAt {i : Int} (hX : mX h pm fl p n w T) (hT : okT T n) (hV : lvO w L) (hi : 0 ≤ i ∧ i < n) : zca sc 140 [.inr (.inl (some 24)), .inl i] h Q = Q (some (.inl (lgB T i L (-9999)))) h := by
  simp (disch := omega) only [e_140, w_140_0, w_140_1, w_140_2, w_140_3, w_140_5, w_140_6, w_140_7, w_140_8, w_140_9, w_140_10, w_140_11, w_140_12, w_140_13, w_140_14, w_140_15, w_140_16, w_140_17, w_140_18, w_140_19, w_140_20, w_140_21, w_140_22, w_140_23, w_140_24, w_140_25, w_140_26, w_140_27, w_140_28, w_140_29, w_140_30, w_140_31, w_140_32, w_140_33, w_140_34, w_140_35, w_140_36, w_140_37, w_140_38, w_140_39, w_140_40, w_140_41, w_140_42, w_140_43, w_140_44, w_140_45, w_140_46, w_140_47, w_140_48, w_140_49, getK, putK, ialK, iasK, aalK, aasK, alnK, zgt_u, zgt_a, Option.toList_some, Option.toList_none, List.cons_append, List.nil_append, List.map_cons, List.map_nil, List.replicate, ite_true, ite_false, if_true, if_false, List.getElem?_cons_zero, List.getElem?_cons_succ, List.set_cons_zero, List.set_cons_succ, true_and, and_true, beq_self_eq_true, zite, Int.toNat_natCast, if_pos, if_neg, zwr_id, zand]
  exact lp_longestAt6 (sc := sc) (Q := Q) hX hT hV hi L [] (-9999) _ rfl
theorem lp_isCovered {i : Int} (hX : mX h pm fl p n w T) (hT : okT T n) (hV : lvO w L) (hi : 0 ≤ i ∧ i < n) : ∀ (j : Nat) (e : Int) (l3 : Option zV), e + j = n → i ≤ e → zwp sc 141 2 [some (.inr (.inl (some 24))), some (.inl i), some (.inl e), l3] [] h Q = Q (some (.inl (zb (cvB (fun e => loD L T e 6) i n j e = true)))) h := by
  have hO := hX.1
  have h60 := hT.2.1
  obtain ⟨hL, hl, hs, ho⟩ := id hV
  intro j
  induction j with
  | zero =>
    intro e l3 he hie
    rw [w_141_2, zb_f (by intro q; cases q)]
    simp (disch := omega) only [e_141, w_141_0, w_141_1, w_141_3, w_141_4, w_141_5, w_141_6, w_141_7, w_141_8, w_141_9, w_141_10, w_141_11, w_141_12, w_141_13, w_141_14, w_141_15, w_141_16, w_141_17, w_141_18, w_141_19, w_141_20, w_141_21, w_141_22, w_141_23, w_141_24, getK, putK, ialK, iasK, aalK, aasK, alnK, zgt_u, zgt_a, Option.toList_some, Option.toList_none, List.cons_append, List.nil_append, List.map_cons, List.map_nil, List.replicate, ite_true, ite_false, if_true, if_false, List.getElem?_cons_zero, List.getElem?_cons_succ, List.set_cons_zero, List.set_cons_succ, true_and, and_true, beq_self_eq_true, zite, Int.toNat_natCast, if_pos, if_neg, zwr_id, zand, hO, true_or, or_true]
  | succ j ih =>
    intro e l3 he hie
    obtain ⟨q1, q2, q3, q4⟩ := lo_lg (i := e) hT hs ho (by omega)
    have qb := loD_b L T e 6
    rw [w_141_2]
    unfold cvB
    rw [if_pos (by omega)]
    by_cases c1 : loD L T e 6 = 0
    · rw [if_neg (by omega)]
      have c2 := q2.mp c1
      simp (disch := omega) only [e_141, w_141_0, w_141_1, w_141_3, w_141_4, w_141_5, w_141_6, w_141_7, w_141_8, w_141_9, w_141_10, w_141_11, w_141_12, w_141_13, w_141_14, w_141_15, w_141_16, w_141_17, w_141_18, w_141_19, w_141_20, w_141_21, w_141_22, w_141_23, w_141_24, getK, putK, ialK, iasK, aalK, aasK, alnK, zgt_u, zgt_a, Option.toList_some, Option.toList_none, List.cons_append, List.nil_append, List.map_cons, List.map_nil, List.replicate, ite_true, ite_false, if_true, if_false, List.getElem?_cons_zero, List.getElem?_cons_succ, List.set_cons_zero, List.set_cons_succ, true_and, and_true, beq_self_eq_true, zite, Int.toNat_natCast, if_pos, if_neg, zwr_id, zand, hO, mX_rc hX, s6_longestAt hX hT hV, c2]
      exact ih (e + 1) _ (by omega) (by omega)
    · have q3 := q3 c1
      have c2 : lgB T e L (-9999) ≠ -9999 := fun q => c1 (q2.mpr q)
      by_cases c3 : e - i < loD L T e 6
      · rw [if_pos c3, zb_t rfl]
        simp (disch := omega) only [e_141, w_141_0, w_141_1, w_141_3, w_141_4, w_141_5, w_141_6, w_141_7, w_141_8, w_141_9, w_141_10, w_141_11, w_141_12, w_141_13, w_141_14, w_141_15, w_141_16, w_141_17, w_141_18, w_141_19, w_141_20, w_141_21, w_141_22, w_141_23, w_141_24, getK, putK, ialK, iasK, aalK, aasK, alnK, zgt_u, zgt_a, Option.toList_some, Option.toList_none, List.cons_append, List.nil_append, List.map_cons, List.map_nil, List.replicate, ite_true, ite_false, if_true, if_false, List.getElem?_cons_zero, List.getElem?_cons_succ, List.set_cons_zero, List.set_cons_succ, true_and, and_true, beq_self_eq_true, zite, Int.toNat_natCast, if_pos, if_neg, zwr_id, zand, hO, mX_rc hX, s6_longestAt hX hT hV, s_lettersOf6, q3, true_or, or_true]
      · rw [if_neg c3]
        simp (disch := omega) only [e_141, w_141_0, w_141_1, w_141_3, w_141_4, w_141_5, w_141_6, w_141_7, w_141_8, w_141_9, w_141_10, w_141_11, w_141_12, w_141_13, w_141_14, w_141_15, w_141_16, w_141_17, w_141_18, w_141_19, w_141_20, w_141_21, w_141_22, w_141_23, w_141_24, getK, putK, ialK, iasK, aalK, aasK, alnK, zgt_u, zgt_a, Option.toList_some, Option.toList_none, List.cons_append, List.nil_append, List.map_cons, List.map_nil, List.replicate, ite_true, ite_false, if_true, if_false, List.getElem?_cons_zero, List.getElem?_cons_succ, List.set_cons_zero, List.set_cons_succ, true_and, and_true, beq_self_eq_true, zite, Int.toNat_natCast, if_pos, if_neg, zwr_id, zand, hO, mX_rc hX, s6_longestAt hX hT hV, s_lettersOf6, q3]
        exact ih (e + 1) _ (by omega) (by omega)
theorem s6_isCovered {i : Int} (hX : mX h pm fl p n w T) (hT : okT T n) (hV : lvO w L) (hi : 0 ≤ i ∧ i < n) : zca sc 141 [.inr (.inl (some 24)), .inl i] h Q = Q (some (.inl (zb (cvB (fun e => loD L T e 6) i n 6 i = true)))) h := by
  simp (disch := omega) only [e_141, w_141_0, w_141_1, w_141_3, w_141_4, w_141_5, w_141_6, w_141_7, w_141_8, w_141_9, w_141_10, w_141_11, w_141_12, w_141_13, w_141_14, w_141_15, w_141_16, w_141_17, w_141_18, w_141_19, w_141_20, w_141_21, w_141_22, w_141_23, w_141_24, getK, putK, ialK, iasK, aalK, aasK, alnK, zgt_u, zgt_a, Option.toList_some, Option.toList_none, List.cons_append, List.nil_append, List.map_cons, List.map_nil, List.replicate, ite_true, ite_false, if_true, if_false, List.getElem?_cons_zero, List.getElem?_cons_succ, List.set_cons_zero, List.set_cons_succ, true_and, and_true, beq_self_eq_true, zite, Int.toNat_natCast, if_pos, if_neg, zwr_id, zand]
  rw [lp_isCovered hX hT hV hi (n - i).toNat i _ (by omega) (Int.le_refl _), cvB_6 (fun k => (loD_b L T k 6).2) _ (by omega)]
end
