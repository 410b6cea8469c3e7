/-! ITEMS: lists of (group, code, weight) -/
abbrev zI : Type := Int × Int × Int
def rI (G C W : Int → Int) : Int → List zI → Prop
  | _, [] => True
  | k, x :: L => G k = x.1 ∧ C k = x.2.1 ∧ W k = x.2.2 ∧ rI G C W (k + 1) L
def okI (x : zI) : Prop := 0 ≤ x.1 ∧ x.1 ≤ 6 ∧ wd x.2.1 ∧ -99 ≤ x.2.2 ∧ x.2.2 ≤ 99
def okIs (L : List zI) : Prop := ∀ x ∈ L, okI x
theorem okIs_c {x : zI} {L : List zI} : okIs (x :: L) ↔ okI x ∧ okIs L := by simp [okIs]
/-- the items of a class's list at the cell b -/
def rIt (h : zH) (b : Nat) (L : List zI) : Prop := ∃ G C W, zgt h b = .inl (2, [.inr (.inl (some (b + 1))), .inr (.inl (some (b + 2))), .inr (.inl (some (b + 3))), .inl (L.length : Int)]) ∧ zgt h (b + 1) = .inr (.inl (48, G)) ∧ zgt h (b + 2) = .inr (.inl (48, C)) ∧ zgt h (b + 3) = .inr (.inl (48, W)) ∧ rI G C W 0 L
theorem rIt_rc {h : zH} {b : Nat} {L : List zI} {as : List zV} (hI : rIt h b L) : zrecv h 2 (.inr (.inl (some b)) :: as) = true := by
  obtain ⟨G, C, W, h0, -⟩ := hI
  exact zrc h0
def gI (L : List zI) (i : Int) : zI := if 0 ≤ i then L.getD i.toNat (0, 0, 0) else (0, 0, 0)
theorem rI_at {G C W : Int → Int} : ∀ {L : List zI} {k i : Int}, rI G C W k L → 0 ≤ i → i < L.length → G (k + i) = (gI L i).1 ∧ C (k + i) = (gI L i).2.1 ∧ W (k + i) = (gI L i).2.2
  | [], k, i, _, h0, h1 => by simp at h1; omega
  | x :: L, k, i, hr, h0, h1 => by
    unfold rI at hr
    obtain ⟨r1, r2, r3, r4⟩ := hr
    by_cases hi : i = 0
    · subst hi
      rw [Int.add_zero]
      exact ⟨r1, r2, r3⟩
    · have := rI_at (i := i - 1) r4 (by omega) (by simp at h1; omega)
      rw [show k + 1 + (i - 1) = k + i by omega] at this
      have e : gI (x :: L) i = gI L (i - 1) := by
        unfold gI
        rw [if_pos h0, if_pos (by omega), show i.toNat = (i - 1).toNat + 1 by omega]
        rfl
      rw [e]; exact this
/-- the first place of a word -/
def ixf (c : Int) : Int → List zI → Int
  | _, [] => -1
  | k, x :: L => if x.2.1 ≤ c then (if x.2.1 = c then k else ixf c (k + 1) L) else -1
def sto (g : Int) : List zI → Int
  | [] => 0
  | x :: L => if x.1 < g then sto g L + 1 else 0
def lti (g : Int) : List zI → Int
  | [] => 0
  | x :: L => (if x.1 = g then nd x.2.1 else 0) + lti g L
def wti (g : Int) : List zI → Int
  | [] => 0
  | x :: L => (if x.1 = g then x.2.2 else 0) + wti g L
def cti (g : Int) : List zI → Int
  | [] => 0
  | x :: L => (if x.1 = g then 1 else 0) + cti g L
theorem sto_b (g : Int) : ∀ L, 0 ≤ sto g L ∧ sto g L ≤ (L.length : Int)
  | [] => by simp [sto]
  | x :: L => by
    have := sto_b g L
    unfold sto
    simp only [List.length_cons]
    split <;> omega
theorem lti_b (g : Int) : ∀ {L}, okIs L → 0 ≤ lti g L ∧ lti g L ≤ 6 * (L.length : Int)
  | [], _ => by simp [lti]
  | x :: L, h => by
    have h := okIs_c.mp h
    have := lti_b g h.2
    have h2 := wd_nd h.1.2.2.1
    unfold lti
    simp only [List.length_cons]
    split <;> omega
theorem wti_b (g : Int) : ∀ {L}, okIs L → -99 * (L.length : Int) ≤ wti g L ∧ wti g L ≤ 99 * (L.length : Int)
  | [], _ => by simp [wti]
  | x :: L, h => by
    have h := okIs_c.mp h
    have := wti_b g h.2
    have h2 := h.1.2.2.2
    unfold wti
    simp only [List.length_cons]
    split <;> omega
theorem cti_b (g : Int) : ∀ L, 0 ≤ cti g L ∧ cti g L ≤ (L.length : Int)
  | [] => by simp [cti]
  | x :: L => by
    have := cti_b g L
    unfold cti
    simp only [List.length_cons]
    split <;> omega
section
variable {sc : Nat × (Int → Int)} {h : zH} {Q : Option zV → zH → Prop} {b : Nat} {L : List zI}
theorem s_size2 (hI : rIt h b L) : zca sc 15 [.inr (.inl (some b))] h Q = Q (some (.inl (L.length : Int))) h := by
  obtain ⟨G, C, W, h0, h1, h2, h3, hr⟩ := hI
  simp (disch := omega) only [e_15, w_15_0, w_15_1, w_15_2, getK, putK, ialK, iasK, aalK, aasK, alnK, zgt_u, zgt_a, Option.toList_some, Option.toList_none, List.cons_append, List.nil_append, List.map_cons, List.map_nil, List.replicate, ite_true, ite_false, if_true, if_false, List.getElem?_cons_zero, List.getElem?_cons_succ, List.set_cons_zero, List.set_cons_succ, true_and, and_true, beq_self_eq_true, zite, Int.toNat_natCast, if_pos, if_neg, zwr_id, zand, h0]
theorem s_codeAt2 {i : Int} (hI : rIt h b L) (hL : L.length ≤ 48) (h0 : 0 ≤ i) (hi : i < L.length) : zca sc 16 [.inr (.inl (some b)), .inl i] h Q = Q (some (.inl (gI L i).2.1)) h := by
  obtain ⟨G, C, W, h0', h1, h2, h3, hr⟩ := hI
  have := (rI_at hr h0 hi).2.1
  rw [Int.zero_add] at this
  simp (disch := omega) only [e_16, w_16_0, w_16_1, w_16_2, w_16_3, w_16_4, w_16_5, w_16_6, w_16_7, w_16_8, w_16_9, w_16_10, w_16_11, w_16_12, getK, putK, ialK, iasK, aalK, aasK, alnK, zgt_u, zgt_a, Option.toList_some, Option.toList_none, List.cons_append, List.nil_append, List.map_cons, List.map_nil, List.replicate, ite_true, ite_false, if_true, if_false, List.getElem?_cons_zero, List.getElem?_cons_succ, List.set_cons_zero, List.set_cons_succ, true_and, and_true, beq_self_eq_true, zite, Int.toNat_natCast, if_pos, if_neg, zwr_id, zand, h0', h1, h2, h3]
  rw [this]
theorem s_weightAt2 {i : Int} (hI : rIt h b L) (hL : L.length ≤ 48) (h0 : 0 ≤ i) (hi : i < L.length) : zca sc 17 [.inr (.inl (some b)), .inl i] h Q = Q (some (.inl (gI L i).2.2)) h := by
  obtain ⟨G, C, W, h0', h1, h2, h3, hr⟩ := hI
  have := (rI_at hr h0 hi).2.2
  rw [Int.zero_add] at this
  simp (disch := omega) only [e_17, w_17_0, w_17_1, w_17_2, w_17_3, w_17_4, w_17_5, w_17_6, w_17_7, w_17_8, w_17_9, w_17_10, w_17_11, w_17_12, getK, putK, ialK, iasK, aalK, aasK, alnK, zgt_u, zgt_a, Option.toList_some, Option.toList_none, List.cons_append, List.nil_append, List.map_cons, List.map_nil, List.replicate, ite_true, ite_false, if_true, if_false, List.getElem?_cons_zero, List.getElem?_cons_succ, List.set_cons_zero, List.set_cons_succ, true_and, and_true, beq_self_eq_true, zite, Int.toNat_natCast, if_pos, if_neg, zwr_id, zand, h0', h1, h2, h3]
  rw [this]
theorem lp_indexOf {G C W : Int → Int} {n c : Int} (h0 : zgt h b = .inl (2, [.inr (.inl (some (b + 1))), .inr (.inl (some (b + 2))), .inr (.inl (some (b + 3))), .inl n])) (h2 : zgt h (b + 2) = .inr (.inl (48, C))) (hn : n ≤ 48) : ∀ (L : List zI) (k : Int), rI G C W k L → 0 ≤ k → k + L.length = n → zwp sc 18 2 [some (.inr (.inl (some b))), some (.inl c), some (.inl k)] [] h Q = Q (some (.inl (ixf c k L))) h := by
  intro L
  induction L with
  | nil =>
    intro k hr hk he
    simp only [List.length_nil] at he
    rw [w_18_2]
    simp (disch := omega) only [e_18, w_18_0, w_18_1, w_18_3, w_18_4, w_18_5, w_18_6, w_18_7, w_18_8, w_18_9, w_18_10, w_18_11, w_18_12, w_18_13, w_18_14, w_18_15, w_18_16, w_18_17, w_18_18, w_18_19, w_18_20, w_18_21, w_18_22, w_18_23, getK, putK, ialK, iasK, aalK, aasK, alnK, zgt_u, zgt_a, Option.toList_some, Option.toList_none, List.cons_append, List.nil_append, List.map_cons, List.map_nil, List.replicate, ite_true, ite_false, if_true, if_false, List.getElem?_cons_zero, List.getElem?_cons_succ, List.set_cons_zero, List.set_cons_succ, true_and, and_true, beq_self_eq_true, zite, Int.toNat_natCast, if_pos, if_neg, zwr_id, zand, h0, h2]
    rfl
  | cons x L ih =>
    intro k hr hk he
    unfold rI at hr
    obtain ⟨r1, r2, r3, r4⟩ := hr
    simp only [List.length_cons] at he
    unfold ixf
    rw [w_18_2]
    simp (disch := omega) only [e_18, w_18_0, w_18_1, w_18_3, w_18_4, w_18_5, w_18_6, w_18_7, w_18_8, w_18_9, w_18_10, w_18_11, w_18_12, w_18_13, w_18_14, w_18_15, w_18_16, w_18_17, w_18_18, w_18_19, w_18_20, w_18_21, w_18_22, w_18_23, getK, putK, ialK, iasK, aalK, aasK, alnK, zgt_u, zgt_a, Option.toList_some, Option.toList_none, List.cons_append, List.nil_append, List.map_cons, List.map_nil, List.replicate, ite_true, ite_false, if_true, if_false, List.getElem?_cons_zero, List.getElem?_cons_succ, List.set_cons_zero, List.set_cons_succ, true_and, and_true, beq_self_eq_true, zite, Int.toNat_natCast, if_pos, if_neg, zwr_id, zand, h0, h2, r2]
    by_cases c1 : x.2.1 ≤ c
    · by_cases c2 : x.2.1 = c
      · simp (disch := omega) only [if_pos, if_neg]
      · simp (disch := omega) only [if_pos, if_neg, ih _ r4]
    · simp (disch := omega) only [if_pos, if_neg]
theorem s_indexOf {c : Int} (hI : rIt h b L) (hL : L.length ≤ 48) : zca sc 18 [.inr (.inl (some b)), .inl c] h Q = Q (some (.inl (ixf c 0 L))) h := by
  obtain ⟨G, C, W, h0, h1, h2, h3, hr⟩ := hI
  simp (disch := omega) only [e_18, w_18_0, w_18_1, w_18_3, w_18_4, w_18_5, w_18_6, w_18_7, w_18_8, w_18_9, w_18_10, w_18_11, w_18_12, w_18_13, w_18_14, w_18_15, w_18_16, w_18_17, w_18_18, w_18_19, w_18_20, w_18_21, w_18_22, w_18_23, getK, putK, ialK, iasK, aalK, aasK, alnK, zgt_u, zgt_a, Option.toList_some, Option.toList_none, List.cons_append, List.nil_append, List.map_cons, List.map_nil, List.replicate, ite_true, ite_false, if_true, if_false, List.getElem?_cons_zero, List.getElem?_cons_succ, List.set_cons_zero, List.set_cons_succ, true_and, and_true, beq_self_eq_true, zite, Int.toNat_natCast, if_pos, if_neg, zwr_id, zand]
  exact lp_indexOf h0 h2 (by omega) L 0 hr (by omega) (by omega)
theorem lp_startOf {G C W : Int → Int} {n g : Int} (h0 : zgt h b = .inl (2, [.inr (.inl (some (b + 1))), .inr (.inl (some (b + 2))), .inr (.inl (some (b + 3))), .inl n])) (h1 : zgt h (b + 1) = .inr (.inl (48, G))) (hn : n ≤ 48) : ∀ (L : List zI) (k a : Int), rI G C W k L → 0 ≤ k → k + L.length = n → 0 ≤ a → a ≤ k → zwp sc 19 4 [some (.inr (.inl (some b))), some (.inl g), some (.inl a), some (.inl k)] [] h Q = Q (some (.inl (a + sto g L))) h := by
  intro L
  induction L with
  | nil =>
    intro k a hr hk he ha hak
    simp only [List.length_nil] at he
    rw [w_19_4]
    simp (disch := omega) only [e_19, w_19_0, w_19_1, w_19_2, w_19_3, w_19_5, w_19_6, w_19_7, w_19_8, w_19_9, w_19_10, w_19_11, w_19_12, w_19_13, w_19_14, w_19_15, w_19_16, w_19_17, w_19_18, getK, putK, ialK, iasK, aalK, aasK, alnK, zgt_u, zgt_a, Option.toList_some, Option.toList_none, List.cons_append, List.nil_append, List.map_cons, List.map_nil, List.replicate, ite_true, ite_false, if_true, if_false, List.getElem?_cons_zero, List.getElem?_cons_succ, List.set_cons_zero, List.set_cons_succ, true_and, and_true, beq_self_eq_true, zite, Int.toNat_natCast, if_pos, if_neg, zwr_id, zand, h0, h1]
    unfold sto
    rw [Int.add_zero]
  | cons x L ih =>
    intro k a hr hk he ha hak
    unfold rI at hr
    obtain ⟨r1, r2, r3, r4⟩ := hr
    simp only [List.length_cons] at he
    unfold sto
    rw [w_19_4]
    by_cases c1 : x.1 < g
    · simp (disch := omega) only [e_19, w_19_0, w_19_1, w_19_2, w_19_3, w_19_5, w_19_6, w_19_7, w_19_8, w_19_9, w_19_10, w_19_11, w_19_12, w_19_13, w_19_14, w_19_15, w_19_16, w_19_17, w_19_18, getK, putK, ialK, iasK, aalK, aasK, alnK, zgt_u, zgt_a, Option.toList_some, Option.toList_none, List.cons_append, List.nil_append, List.map_cons, List.map_nil, List.replicate, ite_true, ite_false, if_true, if_false, List.getElem?_cons_zero, List.getElem?_cons_succ, List.set_cons_zero, List.set_cons_succ, true_and, and_true, beq_self_eq_true, zite, Int.toNat_natCast, if_pos, if_neg, zwr_id, zand, h0, h1, r1, ih _ _ r4]
      rw [show a + 1 + sto g L = a + (sto g L + 1) by omega]
    · simp (disch := omega) only [e_19, w_19_0, w_19_1, w_19_2, w_19_3, w_19_5, w_19_6, w_19_7, w_19_8, w_19_9, w_19_10, w_19_11, w_19_12, w_19_13, w_19_14, w_19_15, w_19_16, w_19_17, w_19_18, getK, putK, ialK, iasK, aalK, aasK, alnK, zgt_u, zgt_a, Option.toList_some, Option.toList_none, List.cons_append, List.nil_append, List.map_cons, List.map_nil, List.replicate, ite_true, ite_false, if_true, if_false, List.getElem?_cons_zero, List.getElem?_cons_succ, List.set_cons_zero, List.set_cons_succ, true_and, and_true, beq_self_eq_true, zite, Int.toNat_natCast, if_pos, if_neg, zwr_id, zand, h0, h1, r1, Int.add_zero]
theorem s_startOf {g : Int} (hI : rIt h b L) (hL : L.length ≤ 48) : zca sc 19 [.inr (.inl (some b)), .inl g] h Q = Q (some (.inl (sto g L))) h := by
  obtain ⟨G, C, W, h0, h1, h2, h3, hr⟩ := hI
  simp (disch := omega) only [e_19, w_19_0, w_19_1, w_19_2, w_19_3, w_19_5, w_19_6, w_19_7, w_19_8, w_19_9, w_19_10, w_19_11, w_19_12, w_19_13, w_19_14, w_19_15, w_19_16, w_19_17, w_19_18, getK, putK, ialK, iasK, aalK, aasK, alnK, zgt_u, zgt_a, Option.toList_some, Option.toList_none, List.cons_append, List.nil_append, List.map_cons, List.map_nil, List.replicate, ite_true, ite_false, if_true, if_false, List.getElem?_cons_zero, List.getElem?_cons_succ, List.set_cons_zero, List.set_cons_succ, true_and, and_true, beq_self_eq_true, zite, Int.toNat_natCast, if_pos, if_neg, zwr_id, zand]
  rw [lp_startOf h0 h1 (by omega) L 0 0 hr (by omega) (by omega) (by omega) (by omega), Int.zero_add]
theorem s_sizeOf {g : Int} (hI : rIt h b L) (hL : L.length ≤ 48) (hg : 0 ≤ g ∧ g ≤ 100) : zca sc 20 [.inr (.inl (some b)), .inl g] h Q = Q (some (.inl (sto (g + 1) L - sto g L))) h := by
  have s1 := sto_b g L
  have s2 := sto_b (g + 1) L
  simp (disch := omega) only [e_20, w_20_0, w_20_1, w_20_2, w_20_3, w_20_4, w_20_5, w_20_6, w_20_7, w_20_8, w_20_9, getK, putK, ialK, iasK, aalK, aasK, alnK, zgt_u, zgt_a, Option.toList_some, Option.toList_none, List.cons_append, List.nil_append, List.map_cons, List.map_nil, List.replicate, ite_true, ite_false, if_true, if_false, List.getElem?_cons_zero, List.getElem?_cons_succ, List.set_cons_zero, List.set_cons_succ, true_and, and_true, beq_self_eq_true, zite, Int.toNat_natCast, if_pos, if_neg, zwr_id, zand, s_startOf hI hL, rIt_rc hI]
theorem lp_lettersIn {G C W : Int → Int} {n g : Int} (h0 : zgt h b = .inl (2, [.inr (.inl (some (b + 1))), .inr (.inl (some (b + 2))), .inr (.inl (some (b + 3))), .inl n])) (h1 : zgt h (b + 1) = .inr (.inl (48, G))) (h2 : zgt h (b + 2) = .inr (.inl (48, C))) (hn : n ≤ 48) : ∀ (L : List zI) (k a : Int), okIs L → rI G C W k L → 0 ≤ k → k + L.length = n → 0 ≤ a → a ≤ 6 * k → zwp sc 21 4 [some (.inr (.inl (some b))), some (.inl g), some (.inl a), some (.inl k)] [] h Q = Q (some (.inl (a + lti g L))) h := by
  intro L
  induction L with
  | nil =>
    intro k a ho hr hk he ha hak
    simp only [List.length_nil] at he
    rw [w_21_4]
    simp (disch := omega) only [e_21, w_21_0, w_21_1, w_21_2, w_21_3, w_21_5, w_21_6, w_21_7, w_21_8, w_21_9, w_21_10, w_21_11, w_21_12, w_21_13, w_21_14, w_21_15, w_21_16, w_21_17, w_21_18, w_21_19, w_21_20, w_21_21, w_21_22, w_21_23, w_21_24, w_21_25, getK, putK, ialK, iasK, aalK, aasK, alnK, zgt_u, zgt_a, Option.toList_some, Option.toList_none, List.cons_append, List.nil_append, List.map_cons, List.map_nil, List.replicate, ite_true, ite_false, if_true, if_false, List.getElem?_cons_zero, List.getElem?_cons_succ, List.set_cons_zero, List.set_cons_succ, true_and, and_true, beq_self_eq_true, zite, Int.toNat_natCast, if_pos, if_neg, zwr_id, zand, h0, h1]
    unfold lti
    rw [Int.add_zero]
  | cons x L ih =>
    intro k a ho hr hk he ha hak
    unfold rI at hr
    obtain ⟨r1, r2, r3, r4⟩ := hr
    have ho := okIs_c.mp ho
    have h6 := wd_nd ho.1.2.2.1
    have h7 := ho.1.2.2.1.2.1
    simp only [List.length_cons] at he
    unfold lti
    rw [w_21_4]
    by_cases c1 : x.1 = g
    · simp (disch := omega) only [e_21, w_21_0, w_21_1, w_21_2, w_21_3, w_21_5, w_21_6, w_21_7, w_21_8, w_21_9, w_21_10, w_21_11, w_21_12, w_21_13, w_21_14, w_21_15, w_21_16, w_21_17, w_21_18, w_21_19, w_21_20, w_21_21, w_21_22, w_21_23, w_21_24, w_21_25, getK, putK, ialK, iasK, aalK, aasK, alnK, zgt_u, zgt_a, Option.toList_some, Option.toList_none, List.cons_append, List.nil_append, List.map_cons, List.map_nil, List.replicate, ite_true, ite_false, if_true, if_false, List.getElem?_cons_zero, List.getElem?_cons_succ, List.set_cons_zero, List.set_cons_succ, true_and, and_true, beq_self_eq_true, zite, Int.toNat_natCast, if_pos, if_neg, zwr_id, zand, h0, h1, h2, r1, r2, s_lettersOf5, ih _ _ ho.2 r4]
      rw [show a + nd x.2.1 + lti g L = a + (nd x.2.1 + lti g L) by omega]
    · simp (disch := omega) only [e_21, w_21_0, w_21_1, w_21_2, w_21_3, w_21_5, w_21_6, w_21_7, w_21_8, w_21_9, w_21_10, w_21_11, w_21_12, w_21_13, w_21_14, w_21_15, w_21_16, w_21_17, w_21_18, w_21_19, w_21_20, w_21_21, w_21_22, w_21_23, w_21_24, w_21_25, getK, putK, ialK, iasK, aalK, aasK, alnK, zgt_u, zgt_a, Option.toList_some, Option.toList_none, List.cons_append, List.nil_append, List.map_cons, List.map_nil, List.replicate, ite_true, ite_false, if_true, if_false, List.getElem?_cons_zero, List.getElem?_cons_succ, List.set_cons_zero, List.set_cons_succ, true_and, and_true, beq_self_eq_true, zite, Int.toNat_natCast, if_pos, if_neg, zwr_id, zand, h0, h1, h2, r1, r2, ih _ _ ho.2 r4, Int.zero_add]
theorem s_lettersIn {g : Int} (hI : rIt h b L) (hL : L.length ≤ 48) (ho : okIs L) : zca sc 21 [.inr (.inl (some b)), .inl g] h Q = Q (some (.inl (lti g L))) h := by
  obtain ⟨G, C, W, h0, h1, h2, h3, hr⟩ := hI
  simp (disch := omega) only [e_21, w_21_0, w_21_1, w_21_2, w_21_3, w_21_5, w_21_6, w_21_7, w_21_8, w_21_9, w_21_10, w_21_11, w_21_12, w_21_13, w_21_14, w_21_15, w_21_16, w_21_17, w_21_18, w_21_19, w_21_20, w_21_21, w_21_22, w_21_23, w_21_24, w_21_25, getK, putK, ialK, iasK, aalK, aasK, alnK, zgt_u, zgt_a, Option.toList_some, Option.toList_none, List.cons_append, List.nil_append, List.map_cons, List.map_nil, List.replicate, ite_true, ite_false, if_true, if_false, List.getElem?_cons_zero, List.getElem?_cons_succ, List.set_cons_zero, List.set_cons_succ, true_and, and_true, beq_self_eq_true, zite, Int.toNat_natCast, if_pos, if_neg, zwr_id, zand]
  rw [lp_lettersIn h0 h1 h2 (by omega) L 0 0 ho hr (by omega) (by omega) (by omega) (by omega), Int.zero_add]
theorem lp_weightsIn {G C W : Int → Int} {n g : Int} (h0 : zgt h b = .inl (2, [.inr (.inl (some (b + 1))), .inr (.inl (some (b + 2))), .inr (.inl (some (b + 3))), .inl n])) (h1 : zgt h (b + 1) = .inr (.inl (48, G))) (h3 : zgt h (b + 3) = .inr (.inl (48, W))) (hn : n ≤ 48) : ∀ (L : List zI) (k a : Int), okIs L → rI G C W k L → 0 ≤ k → k + L.length = n → -99 * k ≤ a → a ≤ 99 * k → zwp sc 22 4 [some (.inr (.inl (some b))), some (.inl g), some (.inl a), some (.inl k)] [] h Q = Q (some (.inl (a + wti g L))) h := by
  intro L
  induction L with
  | nil =>
    intro k a ho hr hk he ha hak
    simp only [List.length_nil] at he
    rw [w_22_4]
    simp (disch := omega) only [e_22, w_22_0, w_22_1, w_22_2, w_22_3, w_22_5, w_22_6, w_22_7, w_22_8, w_22_9, w_22_10, w_22_11, w_22_12, w_22_13, w_22_14, w_22_15, w_22_16, w_22_17, w_22_18, w_22_19, w_22_20, w_22_21, w_22_22, w_22_23, w_22_24, getK, putK, ialK, iasK, aalK, aasK, alnK, zgt_u, zgt_a, Option.toList_some, Option.toList_none, List.cons_append, List.nil_append, List.map_cons, List.map_nil, List.replicate, ite_true, ite_false, if_true, if_false, List.getElem?_cons_zero, List.getElem?_cons_succ, List.set_cons_zero, List.set_cons_succ, true_and, and_true, beq_self_eq_true, zite, Int.toNat_natCast, if_pos, if_neg, zwr_id, zand, h0, h1]
    unfold wti
    rw [Int.add_zero]
  | cons x L ih =>
    intro k a ho hr hk he ha hak
    unfold rI at hr
    obtain ⟨r1, r2, r3, r4⟩ := hr
    have ho := okIs_c.mp ho
    have h6 := ho.1.2.2.2
    simp only [List.length_cons] at he
    unfold wti
    rw [w_22_4]
    by_cases c1 : x.1 = g
    · simp (disch := omega) only [e_22, w_22_0, w_22_1, w_22_2, w_22_3, w_22_5, w_22_6, w_22_7, w_22_8, w_22_9, w_22_10, w_22_11, w_22_12, w_22_13, w_22_14, w_22_15, w_22_16, w_22_17, w_22_18, w_22_19, w_22_20, w_22_21, w_22_22, w_22_23, w_22_24, getK, putK, ialK, iasK, aalK, aasK, alnK, zgt_u, zgt_a, Option.toList_some, Option.toList_none, List.cons_append, List.nil_append, List.map_cons, List.map_nil, List.replicate, ite_true, ite_false, if_true, if_false, List.getElem?_cons_zero, List.getElem?_cons_succ, List.set_cons_zero, List.set_cons_succ, true_and, and_true, beq_self_eq_true, zite, Int.toNat_natCast, if_pos, if_neg, zwr_id, zand, h0, h1, h3, r1, r3, ih _ _ ho.2 r4]
      rw [show a + x.2.2 + wti g L = a + (x.2.2 + wti g L) by omega]
    · simp (disch := omega) only [e_22, w_22_0, w_22_1, w_22_2, w_22_3, w_22_5, w_22_6, w_22_7, w_22_8, w_22_9, w_22_10, w_22_11, w_22_12, w_22_13, w_22_14, w_22_15, w_22_16, w_22_17, w_22_18, w_22_19, w_22_20, w_22_21, w_22_22, w_22_23, w_22_24, getK, putK, ialK, iasK, aalK, aasK, alnK, zgt_u, zgt_a, Option.toList_some, Option.toList_none, List.cons_append, List.nil_append, List.map_cons, List.map_nil, List.replicate, ite_true, ite_false, if_true, if_false, List.getElem?_cons_zero, List.getElem?_cons_succ, List.set_cons_zero, List.set_cons_succ, true_and, and_true, beq_self_eq_true, zite, Int.toNat_natCast, if_pos, if_neg, zwr_id, zand, h0, h1, h3, r1, r3, ih _ _ ho.2 r4, Int.zero_add]
theorem s_weightsIn {g : Int} (hI : rIt h b L) (hL : L.length ≤ 48) (ho : okIs L) : zca sc 22 [.inr (.inl (some b)), .inl g] h Q = Q (some (.inl (wti g L))) h := by
  obtain ⟨G, C, W, h0, h1, h2, h3, hr⟩ := hI
  simp (disch := omega) only [e_22, w_22_0, w_22_1, w_22_2, w_22_3, w_22_5, w_22_6, w_22_7, w_22_8, w_22_9, w_22_10, w_22_11, w_22_12, w_22_13, w_22_14, w_22_15, w_22_16, w_22_17, w_22_18, w_22_19, w_22_20, w_22_21, w_22_22, w_22_23, w_22_24, getK, putK, ialK, iasK, aalK, aasK, alnK, zgt_u, zgt_a, Option.toList_some, Option.toList_none, List.cons_append, List.nil_append, List.map_cons, List.map_nil, List.replicate, ite_true, ite_false, if_true, if_false, List.getElem?_cons_zero, List.getElem?_cons_succ, List.set_cons_zero, List.set_cons_succ, true_and, and_true, beq_self_eq_true, zite, Int.toNat_natCast, if_pos, if_neg, zwr_id, zand]
  rw [lp_weightsIn h0 h1 h3 (by omega) L 0 0 ho hr (by omega) (by omega) (by omega) (by omega), Int.zero_add]
/-- groups that are not empty, from g on -/
def gus (L : List zI) : Nat → Int → Int
  | 0, _ => 0
  | j + 1, g => (if 0 < sto (g + 1) L - sto g L then 1 else 0) + gus L j (g + 1)
theorem gus_b (L : List zI) : ∀ j g, 0 ≤ gus L j g ∧ gus L j g ≤ j
  | 0, _ => by simp [gus]
  | j + 1, g => by have := gus_b L j (g + 1); unfold gus; split <;> omega
theorem lp_groupsInUse (hI : rIt h b L) (hL : L.length ≤ 48) : ∀ (j : Nat) (g a : Int), g + j = 7 → 0 ≤ g → 0 ≤ a → a ≤ g → zwp sc 23 4 [some (.inr (.inl (some b))), some (.inl a), some (.inl g)] [] h Q = Q (some (.inl (a + gus L j g))) h := by
  intro j
  induction j with
  | zero =>
    intro g a hg h0 ha hag
    rw [w_23_4]
    simp (disch := omega) only [e_23, w_23_0, w_23_1, w_23_2, w_23_3, w_23_5, w_23_6, w_23_7, w_23_8, w_23_9, w_23_10, w_23_11, w_23_12, w_23_13, w_23_14, w_23_15, getK, putK, ialK, iasK, aalK, aasK, alnK, zgt_u, zgt_a, Option.toList_some, Option.toList_none, List.cons_append, List.nil_append, List.map_cons, List.map_nil, List.replicate, ite_true, ite_false, if_true, if_false, List.getElem?_cons_zero, List.getElem?_cons_succ, List.set_cons_zero, List.set_cons_succ, true_and, and_true, beq_self_eq_true, zite, Int.toNat_natCast, if_pos, if_neg, zwr_id, zand]
    unfold gus
    rw [Int.add_zero]
  | succ j ih =>
    intro g a hg h0 ha hag
    unfold gus
    rw [w_23_4]
    by_cases c1 : 0 < sto (g + 1) L - sto g L
    · simp (disch := omega) only [e_23, w_23_0, w_23_1, w_23_2, w_23_3, w_23_5, w_23_6, w_23_7, w_23_8, w_23_9, w_23_10, w_23_11, w_23_12, w_23_13, w_23_14, w_23_15, getK, putK, ialK, iasK, aalK, aasK, alnK, zgt_u, zgt_a, Option.toList_some, Option.toList_none, List.cons_append, List.nil_append, List.map_cons, List.map_nil, List.replicate, ite_true, ite_false, if_true, if_false, List.getElem?_cons_zero, List.getElem?_cons_succ, List.set_cons_zero, List.set_cons_succ, true_and, and_true, beq_self_eq_true, zite, Int.toNat_natCast, if_pos, if_neg, zwr_id, zand, s_sizeOf hI hL, rIt_rc hI, ih]
      rw [show a + 1 + gus L j (g + 1) = a + (1 + gus L j (g + 1)) by omega]
    · simp (disch := omega) only [e_23, w_23_0, w_23_1, w_23_2, w_23_3, w_23_5, w_23_6, w_23_7, w_23_8, w_23_9, w_23_10, w_23_11, w_23_12, w_23_13, w_23_14, w_23_15, getK, putK, ialK, iasK, aalK, aasK, alnK, zgt_u, zgt_a, Option.toList_some, Option.toList_none, List.cons_append, List.nil_append, List.map_cons, List.map_nil, List.replicate, ite_true, ite_false, if_true, if_false, List.getElem?_cons_zero, List.getElem?_cons_succ, List.set_cons_zero, List.set_cons_succ, true_and, and_true, beq_self_eq_true, zite, Int.toNat_natCast, if_pos, if_neg, zwr_id, zand, s_sizeOf hI hL, rIt_rc hI, ih, Int.zero_add]
theorem s_groupsInUse (hI : rIt h b L) (hL : L.length ≤ 48) : zca sc 23 [.inr (.inl (some b))] h Q = Q (some (.inl (gus L 7 0))) h := by
  simp (disch := omega) only [e_23, w_23_0, w_23_1, w_23_2, w_23_3, w_23_5, w_23_6, w_23_7, w_23_8, w_23_9, w_23_10, w_23_11, w_23_12, w_23_13, w_23_14, w_23_15, getK, putK, ialK, iasK, aalK, aasK, alnK, zgt_u, zgt_a, Option.toList_some, Option.toList_none, List.cons_append, List.nil_append, List.map_cons, List.map_nil, List.replicate, ite_true, ite_false, if_true, if_false, List.getElem?_cons_zero, List.getElem?_cons_succ, List.set_cons_zero, List.set_cons_succ, true_and, and_true, beq_self_eq_true, zite, Int.toNat_natCast, if_pos, if_neg, zwr_id, zand]
  rw [lp_groupsInUse hI hL 7 0 0 (by omega) (by omega) (by omega) (by omega), Int.zero_add]
/-- the least empty group, from g on -/
def leg (L : List zI) : Nat → Int → Int
  | 0, _ => 6
  | j + 1, g => if sto (g + 1) L - sto g L = 0 then g else leg L j (g + 1)
theorem lp_leastEmpty (hI : rIt h b L) (hL : L.length ≤ 48) : ∀ (j : Nat) (g : Int), g + j = 7 → 0 ≤ g → zwp sc 29 2 [some (.inr (.inl (some b))), some (.inl g)] [] h Q = Q (some (.inl (leg L j g))) h := by
  intro j
  induction j with
  | zero =>
    intro g hg h0
    rw [w_29_2]
    simp (disch := omega) only [e_29, w_29_0, w_29_1, w_29_3, w_29_4, w_29_5, w_29_6, w_29_7, w_29_8, w_29_9, w_29_10, w_29_11, w_29_12, w_29_13, w_29_14, getK, putK, ialK, iasK, aalK, aasK, alnK, zgt_u, zgt_a, Option.toList_some, Option.toList_none, List.cons_append, List.nil_append, List.map_cons, List.map_nil, List.replicate, ite_true, ite_false, if_true, if_false, List.getElem?_cons_zero, List.getElem?_cons_succ, List.set_cons_zero, List.set_cons_succ, true_and, and_true, beq_self_eq_true, zite, Int.toNat_natCast, if_pos, if_neg, zwr_id, zand]
    rfl
  | succ j ih =>
    intro g hg h0
    unfold leg
    rw [w_29_2]
    by_cases c1 : sto (g + 1) L - sto g L = 0
    · simp (disch := omega) only [e_29, w_29_0, w_29_1, w_29_3, w_29_4, w_29_5, w_29_6, w_29_7, w_29_8, w_29_9, w_29_10, w_29_11, w_29_12, w_29_13, w_29_14, getK, putK, ialK, iasK, aalK, aasK, alnK, zgt_u, zgt_a, Option.toList_some, Option.toList_none, List.cons_append, List.nil_append, List.map_cons, List.map_nil, List.replicate, ite_true, ite_false, if_true, if_false, List.getElem?_cons_zero, List.getElem?_cons_succ, List.set_cons_zero, List.set_cons_succ, true_and, and_true, beq_self_eq_true, zite, Int.toNat_natCast, if_pos, if_neg, zwr_id, zand, s_sizeOf hI hL, rIt_rc hI]
    · simp (disch := omega) only [e_29, w_29_0, w_29_1, w_29_3, w_29_4, w_29_5, w_29_6, w_29_7, w_29_8, w_29_9, w_29_10, w_29_11, w_29_12, w_29_13, w_29_14, getK, putK, ialK, iasK, aalK, aasK, alnK, zgt_u, zgt_a, Option.toList_some, Option.toList_none, List.cons_append, List.nil_append, List.map_cons, List.map_nil, List.replicate, ite_true, ite_false, if_true, if_false, List.getElem?_cons_zero, List.getElem?_cons_succ, List.set_cons_zero, List.set_cons_succ, true_and, and_true, beq_self_eq_true, zite, Int.toNat_natCast, if_pos, if_neg, zwr_id, zand, s_sizeOf hI hL, rIt_rc hI, ih]
theorem s_leastEmpty (hI : rIt h b L) (hL : L.length ≤ 48) : zca sc 29 [.inr (.inl (some b))] h Q = Q (some (.inl (leg L 7 0))) h := by
  simp (disch := omega) only [e_29, w_29_0, w_29_1, w_29_3, w_29_4, w_29_5, w_29_6, w_29_7, w_29_8, w_29_9, w_29_10, w_29_11, w_29_12, w_29_13, w_29_14, getK, putK, ialK, iasK, aalK, aasK, alnK, zgt_u, zgt_a, Option.toList_some, Option.toList_none, List.cons_append, List.nil_append, List.map_cons, List.map_nil, List.replicate, ite_true, ite_false, if_true, if_false, List.getElem?_cons_zero, List.getElem?_cons_succ, List.set_cons_zero, List.set_cons_succ, true_and, and_true, beq_self_eq_true, zite, Int.toNat_natCast, if_pos, if_neg, zwr_id, zand]
  exact lp_leastEmpty hI hL 7 0 (by omega) (by omega)
end
