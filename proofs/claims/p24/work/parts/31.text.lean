/-! THE TEXT READ -/
/-- the code of n letters that end before r -/
def tc (T : Int → Int) : Int → Nat → Int
  | _, 0 => 0
  | r, n + 1 => tc T (r - 1) n * 10 + T (r - 1) + 1
def okT (T : Int → Int) (len : Int) : Prop := 0 ≤ len ∧ len ≤ 60 ∧ ∀ i, 0 ≤ i → i < len → 0 ≤ T i ∧ T i ≤ 3
theorem tc_b {T : Int → Int} {len : Int} (hT : okT T len) : ∀ (n : Nat) (r : Int), (n : Int) ≤ r → r ≤ len → 0 ≤ tc T r n ∧ tc T r n < tp n
  | 0, r, _, _ => by unfold tc tp; omega
  | n + 1, r, h1, h2 => by
    have ih := tc_b hT n (r - 1) (by omega) (by omega)
    have := hT.2.2 (r - 1) (by omega) (by omega)
    unfold tc tp
    omega
def enT (T : Int → Int) (r : Int) (n : Nat) : Int := if r < n then 0 else tc T r n
theorem tp_6 {n : Nat} (h : n ≤ 6) : tp n ≤ 1000000 := by
  rcases (show n = 0 ∨ n = 1 ∨ n = 2 ∨ n = 3 ∨ n = 4 ∨ n = 5 ∨ n = 6 by omega) with rfl | rfl | rfl | rfl | rfl | rfl | rfl <;> decide
theorem enT_b {T : Int → Int} {len r : Int} {n : Nat} (hT : okT T len) (hr : r ≤ len) (hn : n ≤ 6) : 0 ≤ enT T r n ∧ enT T r n ≤ 999999 := by
  unfold enT
  split
  · omega
  · have := tc_b hT n r (by omega) hr
    have := tp_6 hn
    omega
/-- the item of a word -/
def fn (c : Int) : List zI → Option zI
  | [] => none
  | x :: L => if x.2.1 = c then some x else fn c L
theorem ixf_none {c : Int} : ∀ {L : List zI} {k : Int}, (∀ x ∈ L, x.2.1 ≠ c) → ixf c k L = -1
  | [], _, _ => rfl
  | x :: L, k, h => by
    unfold ixf
    rw [if_neg (h x (by simp)), ixf_none (fun y hy => h y (by simp [hy]))]
    split <;> rfl
theorem fn_none {c : Int} : ∀ {L : List zI}, fn c L = none ↔ ∀ x ∈ L, x.2.1 ≠ c
  | [] => by simp [fn]
  | x :: L => by
    unfold fn
    constructor
    · intro h y hy
      split at h
      · cases h
      · rcases List.mem_cons.mp hy with rfl | hy
        · assumption
        · exact fn_none.mp h y hy
    · intro h
      rw [if_neg (h x (by simp))]
      exact fn_none.mpr (fun y hy => h y (by simp [hy]))
theorem fn_some {c : Int} {x : zI} : ∀ {L : List zI}, fn c L = some x → x ∈ L ∧ x.2.1 = c
  | [], h => by cases h
  | y :: L, h => by
    unfold fn at h
    split at h
    · cases h; exact ⟨by simp, by assumption⟩
    · have := fn_some h; exact ⟨by simp [this.1], this.2⟩
theorem ixf_fn {c : Int} {x : zI} : ∀ {L : List zI} {k : Int}, srtL L → fn c L = some x → ∃ j : Nat, L[j]? = some x ∧ ixf c k L = k + j
  | [], _, _, h => by cases h
  | y :: L, k, hs, h => by
    obtain ⟨h1, h2⟩ := hs
    obtain ⟨a1, a2⟩ := List.pairwise_cons.mp h2
    unfold fn at h
    unfold ixf
    split at h
    next e => cases h; exact ⟨0, rfl, by rw [if_pos (by omega), if_pos e]; simp⟩
    next e =>
      obtain ⟨m1, m2⟩ := fn_some h
      have := a1 x m1
      obtain ⟨j, j1, j2⟩ := ixf_fn (k := k + 1) ⟨fun z hz => h1 z (by simp [hz]), a2⟩ h
      exact ⟨j + 1, by simpa using j1, by rw [if_pos (by omega), if_neg e, j2]; omega⟩
theorem ixf_ge {c : Int} {L : List zI} (hs : srtL L) : (0 ≤ ixf c 0 L) ↔ fn c L ≠ none := by
  cases h : fn c L with
  | none => rw [ixf_none (fn_none.mp h)]; simp
  | some x => obtain ⟨j, j1, j2⟩ := ixf_fn (k := 0) hs h; rw [j2]; simp
/-- the matches that end at i, of n letters and more (j kinds) -/
def mN (L : List zI) (T : Int → Int) (i : Int) : Nat → Nat → List zI
  | 0, _ => []
  | j + 1, n => match fn (enT T (i + 1) n) L with
    | some x => x :: mN L T i j (n + 1)
    | none => mN L T i j (n + 1)
def wsum : List zI → Int
  | [] => 0
  | x :: L => x.2.2 + wsum L
theorem mN_len (L : List zI) (T : Int → Int) (i : Int) : ∀ j n, ((mN L T i j n).length : Int) ≤ j
  | 0, _ => by simp [mN]
  | j + 1, n => by
    have := mN_len L T i j (n + 1)
    unfold mN
    split
    · simp only [List.length_cons]; omega
    · omega
theorem mN_w {L : List zI} (ho : okIs L) (T : Int → Int) (i : Int) : ∀ (j n : Nat), -99 * (j : Int) ≤ wsum (mN L T i j n) ∧ wsum (mN L T i j n) ≤ 99 * j
  | 0, _ => by simp [mN, wsum]
  | j + 1, n => by
    have := mN_w ho T i j (n + 1)
    unfold mN
    split
    next x hx =>
      have := (ho x (fn_some hx).1).2.2.2
      unfold wsum; omega
    next => omega
section
variable {sc : Nat × (Int → Int)} {h : zH} {Q : Option zV → zH → Prop} {b lb : Nat} {L : List zI} {len : Int} {T : Int → Int}
theorem rTx_rc {as : List zV} (hX : rTx h b len T) : zrecv h 4 (.inr (.inl (some b)) :: as) = true := zrc hX.1
theorem s_length (hX : rTx h b len T) : zca sc 43 [.inr (.inl (some b))] h Q = Q (some (.inl len)) h := by
  have h0 := hX.1
  simp (disch := omega) only [e_43, w_43_0, w_43_1, w_43_2, getK, putK, ialK, iasK, aalK, aasK, alnK, zgt_u, zgt_a, Option.toList_some, Option.toList_none, List.cons_append, List.nil_append, List.map_cons, List.map_nil, List.replicate, ite_true, ite_false, if_true, if_false, List.getElem?_cons_zero, List.getElem?_cons_succ, List.set_cons_zero, List.set_cons_succ, true_and, and_true, beq_self_eq_true, zite, Int.toNat_natCast, if_pos, if_neg, zwr_id, zand, h0]
theorem s_letterAt {i : Int} (hX : rTx h b len T) (hT : okT T len) (h0 : 0 ≤ i) (h1 : i < len) : zca sc 46 [.inr (.inl (some b)), .inl i] h Q = Q (some (.inl (T i))) h := by
  obtain ⟨g0, g1, -⟩ := hX
  have := hT.2.1
  simp (disch := omega) only [e_46, w_46_0, w_46_1, w_46_2, w_46_3, w_46_4, w_46_5, w_46_6, w_46_7, w_46_8, w_46_9, w_46_10, w_46_11, w_46_12, getK, putK, ialK, iasK, aalK, aasK, alnK, zgt_u, zgt_a, Option.toList_some, Option.toList_none, List.cons_append, List.nil_append, List.map_cons, List.map_nil, List.replicate, ite_true, ite_false, if_true, if_false, List.getElem?_cons_zero, List.getElem?_cons_succ, List.set_cons_zero, List.set_cons_succ, true_and, and_true, beq_self_eq_true, zite, Int.toNat_natCast, if_pos, if_neg, zwr_id, zand, g0, g1]
theorem lp_ending {r : Int} {n : Nat} (hX : rTx h b len T) (hT : okT T len) (hr : r ≤ len) (hn : n ≤ 6) (hnr : (n : Int) ≤ r) : ∀ (j : Nat) (k : Nat), j + k = n → zwp sc 47 11 [some (.inr (.inl (some b))), some (.inl r), some (.inl n), some (.inl (tc T (r - j) k)), some (.inl (r - j))] [] h Q = Q (some (.inl (tc T r n))) h := by
  intro j
  induction j with
  | zero =>
    intro k hk
    have : k = n := by omega
    subst this
    rw [w_47_11]
    simp (disch := omega) only [e_47, w_47_0, w_47_1, w_47_2, w_47_3, w_47_4, w_47_5, w_47_6, w_47_7, w_47_8, w_47_9, w_47_10, w_47_12, w_47_13, w_47_14, w_47_15, w_47_16, w_47_17, w_47_18, w_47_19, w_47_20, w_47_21, w_47_22, w_47_23, w_47_24, w_47_25, w_47_26, w_47_27, getK, putK, ialK, iasK, aalK, aasK, alnK, zgt_u, zgt_a, Option.toList_some, Option.toList_none, List.cons_append, List.nil_append, List.map_cons, List.map_nil, List.replicate, ite_true, ite_false, if_true, if_false, List.getElem?_cons_zero, List.getElem?_cons_succ, List.set_cons_zero, List.set_cons_succ, true_and, and_true, beq_self_eq_true, zite, Int.toNat_natCast, if_pos, if_neg, zwr_id, zand, Int.natCast_zero, Int.sub_zero]
  | succ j ih =>
    intro k hk
    have hb := tc_b hT k (r - (j + 1 : Nat)) (by omega) (by omega)
    have h6 := tp_6 (show k ≤ 6 by omega)
    have hl := hT.2.2 (r - (j + 1 : Nat)) (by omega) (by omega)
    have h60 := hT.2.1
    have e1 : r - ((j + 1 : Nat) : Int) + 1 = r - (j : Int) := by omega
    have e2 : tc T (r - (j + 1 : Nat)) k * 10 + T (r - (j + 1 : Nat)) + 1 = tc T (r - j) (k + 1) := by
      show _ = tc T (r - j - 1) k * 10 + T (r - j - 1) + 1
      rw [show r - (j : Int) - 1 = r - ((j + 1 : Nat) : Int) by omega]
    rw [w_47_11]
    simp (disch := omega) only [e_47, w_47_0, w_47_1, w_47_2, w_47_3, w_47_4, w_47_5, w_47_6, w_47_7, w_47_8, w_47_9, w_47_10, w_47_12, w_47_13, w_47_14, w_47_15, w_47_16, w_47_17, w_47_18, w_47_19, w_47_20, w_47_21, w_47_22, w_47_23, w_47_24, w_47_25, w_47_26, w_47_27, getK, putK, ialK, iasK, aalK, aasK, alnK, zgt_u, zgt_a, Option.toList_some, Option.toList_none, List.cons_append, List.nil_append, List.map_cons, List.map_nil, List.replicate, ite_true, ite_false, if_true, if_false, List.getElem?_cons_zero, List.getElem?_cons_succ, List.set_cons_zero, List.set_cons_succ, true_and, and_true, beq_self_eq_true, zite, Int.toNat_natCast, if_pos, if_neg, zwr_id, zand, rTx_rc hX, s_letterAt hX hT]
    rw [e2, e1]
    exact ih (k + 1) (by omega)
theorem s_ending {r : Int} {n : Nat} (hX : rTx h b len T) (hT : okT T len) (h0 : 0 ≤ r) (hr : r ≤ len) (hn : n ≤ 6) : zca sc 47 [.inr (.inl (some b)), .inl r, .inl n] h Q = Q (some (.inl (enT T r n))) h := by
  have := hT.2.1
  unfold enT
  by_cases c : r < n
  · simp (disch := omega) only [e_47, w_47_0, w_47_1, w_47_2, w_47_3, w_47_4, w_47_5, w_47_6, w_47_7, w_47_8, w_47_9, w_47_10, w_47_12, w_47_13, w_47_14, w_47_15, w_47_16, w_47_17, w_47_18, w_47_19, w_47_20, w_47_21, w_47_22, w_47_23, w_47_24, w_47_25, w_47_26, w_47_27, getK, putK, ialK, iasK, aalK, aasK, alnK, zgt_u, zgt_a, Option.toList_some, Option.toList_none, List.cons_append, List.nil_append, List.map_cons, List.map_nil, List.replicate, ite_true, ite_false, if_true, if_false, List.getElem?_cons_zero, List.getElem?_cons_succ, List.set_cons_zero, List.set_cons_succ, true_and, and_true, beq_self_eq_true, zite, Int.toNat_natCast, if_pos, if_neg, zwr_id, zand]
  · simp (disch := omega) only [e_47, w_47_0, w_47_1, w_47_2, w_47_3, w_47_4, w_47_5, w_47_6, w_47_7, w_47_8, w_47_9, w_47_10, w_47_12, w_47_13, w_47_14, w_47_15, w_47_16, w_47_17, w_47_18, w_47_19, w_47_20, w_47_21, w_47_22, w_47_23, w_47_24, w_47_25, w_47_26, w_47_27, getK, putK, ialK, iasK, aalK, aasK, alnK, zgt_u, zgt_a, Option.toList_some, Option.toList_none, List.cons_append, List.nil_append, List.map_cons, List.map_nil, List.replicate, ite_true, ite_false, if_true, if_false, List.getElem?_cons_zero, List.getElem?_cons_succ, List.set_cons_zero, List.set_cons_succ, true_and, and_true, beq_self_eq_true, zite, Int.toNat_natCast, if_pos, if_neg, zwr_id, zand]
    exact lp_ending hX hT hr hn (by omega) n 0 (by omega)
theorem s_hasEnding {i c : Int} (hX : rTx h b len T) (hT : okT T len) (h0 : 0 ≤ i) (hi : i < len) (hc : c ≤ 999999) : zca sc 48 [.inr (.inl (some b)), .inl i, .inl c] h Q = Q (some (.inl (zb (enT T (i + 1) (nd c).toNat = c)))) h := by
  have h6 := nd_6 hc
  have hn := nd_nn c
  have hl := hT.2.1
  generalize hm : (nd c).toNat = n
  have e : nd c = n := by omega
  simp (disch := omega) only [e_48, w_48_0, w_48_1, w_48_2, w_48_3, w_48_4, w_48_5, w_48_6, w_48_7, w_48_8, w_48_9, w_48_10, w_48_11, w_48_12, getK, putK, ialK, iasK, aalK, aasK, alnK, zgt_u, zgt_a, Option.toList_some, Option.toList_none, List.cons_append, List.nil_append, List.map_cons, List.map_nil, List.replicate, ite_true, ite_false, if_true, if_false, List.getElem?_cons_zero, List.getElem?_cons_succ, List.set_cons_zero, List.set_cons_succ, true_and, and_true, beq_self_eq_true, zite, Int.toNat_natCast, if_pos, if_neg, zwr_id, zand, rTx_rc hX, s_lettersOf5]
  rw [e, s_ending hX hT (by omega) (by omega) (by omega)]
  by_cases c1 : enT T (i + 1) n = c
  · rw [zb_t c1]
    simp (disch := omega) only [e_48, w_48_0, w_48_1, w_48_2, w_48_3, w_48_4, w_48_5, w_48_6, w_48_7, w_48_8, w_48_9, w_48_10, w_48_11, w_48_12, getK, putK, ialK, iasK, aalK, aasK, alnK, zgt_u, zgt_a, Option.toList_some, Option.toList_none, List.cons_append, List.nil_append, List.map_cons, List.map_nil, List.replicate, ite_true, ite_false, if_true, if_false, List.getElem?_cons_zero, List.getElem?_cons_succ, List.set_cons_zero, List.set_cons_succ, true_and, and_true, beq_self_eq_true, zite, Int.toNat_natCast, if_pos, if_neg, zwr_id, zand, true_or, or_true]
  · rw [zb_f c1]
    simp (disch := omega) only [e_48, w_48_0, w_48_1, w_48_2, w_48_3, w_48_4, w_48_5, w_48_6, w_48_7, w_48_8, w_48_9, w_48_10, w_48_11, w_48_12, getK, putK, ialK, iasK, aalK, aasK, alnK, zgt_u, zgt_a, Option.toList_some, Option.toList_none, List.cons_append, List.nil_append, List.map_cons, List.map_nil, List.replicate, ite_true, ite_false, if_true, if_false, List.getElem?_cons_zero, List.getElem?_cons_succ, List.set_cons_zero, List.set_cons_succ, true_and, and_true, beq_self_eq_true, zite, Int.toNat_natCast, if_pos, if_neg, zwr_id, zand, true_or, or_true]
theorem s_matchAt {i : Int} {n : Nat} (hX : rTx h b len T) (hT : okT T len) (hI : rIt h lb L) (hL : L.length ≤ 24) (h0 : 0 ≤ i) (hi : i < len) (hn : n ≤ 6) : zca sc 63 [.inr (.inl (some b)), .inl i, .inl n, .inr (.inl (some lb))] h Q = Q (some (.inl (ixf (enT T (i + 1) n) 0 L))) h := by
  have hl := hT.2.1
  simp (disch := omega) only [e_63, w_63_0, w_63_1, w_63_2, w_63_3, w_63_4, w_63_5, w_63_6, w_63_7, w_63_8, getK, putK, ialK, iasK, aalK, aasK, alnK, zgt_u, zgt_a, Option.toList_some, Option.toList_none, List.cons_append, List.nil_append, List.map_cons, List.map_nil, List.replicate, ite_true, ite_false, if_true, if_false, List.getElem?_cons_zero, List.getElem?_cons_succ, List.set_cons_zero, List.set_cons_succ, true_and, and_true, beq_self_eq_true, zite, Int.toNat_natCast, if_pos, if_neg, zwr_id, zand, rTx_rc hX, s_ending hX hT, rIt_rc hI, s_indexOf hI (by omega)]
theorem lp_matchesAt {i : Int} (hX : rTx h b len T) (hT : okT T len) (hI : rIt h lb L) (hL : L.length ≤ 24) (hs : srtL L) (h0 : 0 ≤ i) (hi : i < len) : ∀ (j n : Nat) (a : Int), n + j = 7 → 0 ≤ a → a ≤ n → zwp sc 50 4 [some (.inr (.inl (some b))), some (.inl i), some (.inr (.inl (some lb))), some (.inl a), some (.inl n)] [] h Q = Q (some (.inl (a + (mN L T i j n).length))) h := by
  intro j
  induction j with
  | zero =>
    intro n a hn ha han
    rw [w_50_4]
    simp (disch := omega) only [e_50, w_50_0, w_50_1, w_50_2, w_50_3, w_50_5, w_50_6, w_50_7, w_50_8, w_50_9, w_50_10, w_50_11, w_50_12, w_50_13, w_50_14, w_50_15, w_50_16, w_50_17, getK, putK, ialK, iasK, aalK, aasK, alnK, zgt_u, zgt_a, Option.toList_some, Option.toList_none, List.cons_append, List.nil_append, List.map_cons, List.map_nil, List.replicate, ite_true, ite_false, if_true, if_false, List.getElem?_cons_zero, List.getElem?_cons_succ, List.set_cons_zero, List.set_cons_succ, true_and, and_true, beq_self_eq_true, zite, Int.toNat_natCast, if_pos, if_neg, zwr_id, zand]
    simp [mN]
  | succ j ih =>
    intro n a hn ha han
    have e : (n : Int) + 1 = ((n + 1 : Nat) : Int) := by omega
    have hge := ixf_ge (c := enT T (i + 1) n) hs
    rw [w_50_4]
    unfold mN
    cases hf : fn (enT T (i + 1) n) L with
    | none =>
      rw [hf] at hge
      have hge : ¬ 0 ≤ ixf (enT T (i + 1) n) 0 L := fun q => (hge.mp q) rfl
      simp (disch := omega) only [e_50, w_50_0, w_50_1, w_50_2, w_50_3, w_50_5, w_50_6, w_50_7, w_50_8, w_50_9, w_50_10, w_50_11, w_50_12, w_50_13, w_50_14, w_50_15, w_50_16, w_50_17, getK, putK, ialK, iasK, aalK, aasK, alnK, zgt_u, zgt_a, Option.toList_some, Option.toList_none, List.cons_append, List.nil_append, List.map_cons, List.map_nil, List.replicate, ite_true, ite_false, if_true, if_false, List.getElem?_cons_zero, List.getElem?_cons_succ, List.set_cons_zero, List.set_cons_succ, true_and, and_true, beq_self_eq_true, zite, Int.toNat_natCast, if_pos, if_neg, zwr_id, zand, rTx_rc hX, s_matchAt hX hT hI hL]
      rw [e, ih (n + 1) a (by omega) ha (by omega)]
    | some x =>
      rw [hf] at hge
      have hge : 0 ≤ ixf (enT T (i + 1) n) 0 L := hge.mpr (by simp)
      simp (disch := omega) only [e_50, w_50_0, w_50_1, w_50_2, w_50_3, w_50_5, w_50_6, w_50_7, w_50_8, w_50_9, w_50_10, w_50_11, w_50_12, w_50_13, w_50_14, w_50_15, w_50_16, w_50_17, getK, putK, ialK, iasK, aalK, aasK, alnK, zgt_u, zgt_a, Option.toList_some, Option.toList_none, List.cons_append, List.nil_append, List.map_cons, List.map_nil, List.replicate, ite_true, ite_false, if_true, if_false, List.getElem?_cons_zero, List.getElem?_cons_succ, List.set_cons_zero, List.set_cons_succ, true_and, and_true, beq_self_eq_true, zite, Int.toNat_natCast, if_pos, if_neg, zwr_id, zand, rTx_rc hX, s_matchAt hX hT hI hL]
      rw [e, ih (n + 1) (a + 1) (by omega) (by omega) (by omega)]
      simp only [List.length_cons]
      rw [show a + 1 + ((mN L T i j (n + 1)).length : Int) = a + (((mN L T i j (n + 1)).length + 1 : Nat) : Int) by omega]
theorem s_matchesAt {i : Int} (hX : rTx h b len T) (hT : okT T len) (hI : rIt h lb L) (hL : L.length ≤ 24) (hs : srtL L) (h0 : 0 ≤ i) (hi : i < len) : zca sc 50 [.inr (.inl (some b)), .inl i, .inr (.inl (some lb))] h Q = Q (some (.inl ((mN L T i 6 1).length : Int))) h := by
  simp (disch := omega) only [e_50, w_50_0, w_50_1, w_50_2, w_50_3, w_50_5, w_50_6, w_50_7, w_50_8, w_50_9, w_50_10, w_50_11, w_50_12, w_50_13, w_50_14, w_50_15, w_50_16, w_50_17, getK, putK, ialK, iasK, aalK, aasK, alnK, zgt_u, zgt_a, Option.toList_some, Option.toList_none, List.cons_append, List.nil_append, List.map_cons, List.map_nil, List.replicate, ite_true, ite_false, if_true, if_false, List.getElem?_cons_zero, List.getElem?_cons_succ, List.set_cons_zero, List.set_cons_succ, true_and, and_true, beq_self_eq_true, zite, Int.toNat_natCast, if_pos, if_neg, zwr_id, zand]
  have := lp_matchesAt (Q := Q) (sc := sc) hX hT hI hL hs h0 hi 6 1 0 (by omega) (by omega) (by omega)
  rw [Int.zero_add] at this
  exact this
theorem lp_weightAt {i : Int} (hX : rTx h b len T) (hT : okT T len) (hI : rIt h lb L) (hL : L.length ≤ 24) (hs : srtL L) (ho : okIs L) (h0 : 0 ≤ i) (hi : i < len) : ∀ (j n : Nat) (a : Int) (l5 : Option zV), n + j = 7 → -99 * (n : Int) ≤ a → a ≤ 99 * n → zwp sc 51 4 [some (.inr (.inl (some b))), some (.inl i), some (.inr (.inl (some lb))), some (.inl a), some (.inl n), l5] [] h Q = Q (some (.inl (a + wsum (mN L T i j n)))) h := by
  intro j
  induction j with
  | zero =>
    intro n a l5 hn ha han
    rw [w_51_4]
    simp (disch := omega) only [e_51, w_51_0, w_51_1, w_51_2, w_51_3, w_51_5, w_51_6, w_51_7, w_51_8, w_51_9, w_51_10, w_51_11, w_51_12, w_51_13, w_51_14, w_51_15, w_51_16, w_51_17, w_51_18, w_51_19, w_51_20, w_51_21, w_51_22, w_51_23, w_51_24, getK, putK, ialK, iasK, aalK, aasK, alnK, zgt_u, zgt_a, Option.toList_some, Option.toList_none, List.cons_append, List.nil_append, List.map_cons, List.map_nil, List.replicate, ite_true, ite_false, if_true, if_false, List.getElem?_cons_zero, List.getElem?_cons_succ, List.set_cons_zero, List.set_cons_succ, true_and, and_true, beq_self_eq_true, zite, Int.toNat_natCast, if_pos, if_neg, zwr_id, zand]
    simp [mN, wsum]
  | succ j ih =>
    intro n a l5 hn ha han
    have e : (n : Int) + 1 = ((n + 1 : Nat) : Int) := by omega
    rw [w_51_4]
    unfold mN
    cases hf : fn (enT T (i + 1) n) L with
    | none =>
      have hge : ixf (enT T (i + 1) n) 0 L = -1 := ixf_none (fn_none.mp hf)
      simp (disch := omega) only [e_51, w_51_0, w_51_1, w_51_2, w_51_3, w_51_5, w_51_6, w_51_7, w_51_8, w_51_9, w_51_10, w_51_11, w_51_12, w_51_13, w_51_14, w_51_15, w_51_16, w_51_17, w_51_18, w_51_19, w_51_20, w_51_21, w_51_22, w_51_23, w_51_24, getK, putK, ialK, iasK, aalK, aasK, alnK, zgt_u, zgt_a, Option.toList_some, Option.toList_none, List.cons_append, List.nil_append, List.map_cons, List.map_nil, List.replicate, ite_true, ite_false, if_true, if_false, List.getElem?_cons_zero, List.getElem?_cons_succ, List.set_cons_zero, List.set_cons_succ, true_and, and_true, beq_self_eq_true, zite, Int.toNat_natCast, if_pos, if_neg, zwr_id, zand, rTx_rc hX, s_matchAt hX hT hI hL]
      rw [e, ih (n + 1) a _ (by omega) (by omega) (by omega)]
    | some x =>
      obtain ⟨k, k1, k2⟩ := ixf_fn (k := 0) hs hf
      have hk := (List.getElem?_eq_some_iff.mp k1).1
      have hw := (ho x (List.mem_of_getElem? k1)).2.2.2
      have hgI := gI_at k1
      simp (disch := omega) only [e_51, w_51_0, w_51_1, w_51_2, w_51_3, w_51_5, w_51_6, w_51_7, w_51_8, w_51_9, w_51_10, w_51_11, w_51_12, w_51_13, w_51_14, w_51_15, w_51_16, w_51_17, w_51_18, w_51_19, w_51_20, w_51_21, w_51_22, w_51_23, w_51_24, getK, putK, ialK, iasK, aalK, aasK, alnK, zgt_u, zgt_a, Option.toList_some, Option.toList_none, List.cons_append, List.nil_append, List.map_cons, List.map_nil, List.replicate, ite_true, ite_false, if_true, if_false, List.getElem?_cons_zero, List.getElem?_cons_succ, List.set_cons_zero, List.set_cons_succ, true_and, and_true, beq_self_eq_true, zite, Int.toNat_natCast, if_pos, if_neg, zwr_id, zand, rTx_rc hX, s_matchAt hX hT hI hL, k2, Int.zero_add, rIt_rc hI, s_weightAt2 hI, hgI]
      rw [e, ih (n + 1) (a + x.2.2) _ (by omega) (by omega) (by omega)]
      show _ = Q (some (.inl (a + (x.2.2 + wsum _)))) h
      rw [Int.add_assoc]
theorem s_weightAt4 {i : Int} (hX : rTx h b len T) (hT : okT T len) (hI : rIt h lb L) (hL : L.length ≤ 24) (hs : srtL L) (ho : okIs L) (h0 : 0 ≤ i) (hi : i < len) : zca sc 51 [.inr (.inl (some b)), .inl i, .inr (.inl (some lb))] h Q = Q (some (.inl (wsum (mN L T i 6 1)))) h := by
  simp (disch := omega) only [e_51, w_51_0, w_51_1, w_51_2, w_51_3, w_51_5, w_51_6, w_51_7, w_51_8, w_51_9, w_51_10, w_51_11, w_51_12, w_51_13, w_51_14, w_51_15, w_51_16, w_51_17, w_51_18, w_51_19, w_51_20, w_51_21, w_51_22, w_51_23, w_51_24, getK, putK, ialK, iasK, aalK, aasK, alnK, zgt_u, zgt_a, Option.toList_some, Option.toList_none, List.cons_append, List.nil_append, List.map_cons, List.map_nil, List.replicate, ite_true, ite_false, if_true, if_false, List.getElem?_cons_zero, List.getElem?_cons_succ, List.set_cons_zero, List.set_cons_succ, true_and, and_true, beq_self_eq_true, zite, Int.toNat_natCast, if_pos, if_neg, zwr_id, zand]
  have := lp_weightAt (Q := Q) (sc := sc) hX hT hI hL hs ho h0 hi 6 1 0 none (by omega) (by omega) (by omega)
  rw [Int.zero_add] at this
  exact this
/-- the letters of the longest match -/
def loD (L : List zI) (T : Int → Int) (i : Int) : Nat → Int
  | 0 => 0
  | n + 1 => if fn (enT T (i + 1) (n + 1)) L = none then loD L T i n else (n + 1 : Nat)
theorem loD_b (L : List zI) (T : Int → Int) (i : Int) : ∀ n, 0 ≤ loD L T i n ∧ loD L T i n ≤ n
  | 0 => by simp [loD]
  | n + 1 => by have := loD_b L T i n; unfold loD; split <;> omega
theorem lp_longestAt {i : Int} (hX : rTx h b len T) (hT : okT T len) (hI : rIt h lb L) (hL : L.length ≤ 24) (hs : srtL L) (h0 : 0 ≤ i) (hi : i < len) : ∀ (n : Nat), n ≤ 6 → zwp sc 62 2 [some (.inr (.inl (some b))), some (.inl i), some (.inr (.inl (some lb))), some (.inl n)] [] h Q = Q (some (.inl (loD L T i n))) h := by
  intro n
  induction n with
  | zero =>
    intro hn
    rw [w_62_2]
    simp (disch := omega) only [e_62, w_62_0, w_62_1, w_62_3, w_62_4, w_62_5, w_62_6, w_62_7, w_62_8, w_62_9, w_62_10, w_62_11, w_62_12, w_62_13, w_62_14, w_62_15, getK, putK, ialK, iasK, aalK, aasK, alnK, zgt_u, zgt_a, Option.toList_some, Option.toList_none, List.cons_append, List.nil_append, List.map_cons, List.map_nil, List.replicate, ite_true, ite_false, if_true, if_false, List.getElem?_cons_zero, List.getElem?_cons_succ, List.set_cons_zero, List.set_cons_succ, true_and, and_true, beq_self_eq_true, zite, Int.toNat_natCast, if_pos, if_neg, zwr_id, zand]
    rfl
  | succ n ih =>
    intro hn
    have e : ((n + 1 : Nat) : Int) + -1 = (n : Int) := by omega
    have hge := ixf_ge (c := enT T (i + 1) (n + 1)) hs
    rw [w_62_2]
    unfold loD
    cases hf : fn (enT T (i + 1) (n + 1)) L with
    | none =>
      rw [hf] at hge
      have hge : ¬ 0 ≤ ixf (enT T (i + 1) (n + 1)) 0 L := fun q => (hge.mp q) rfl
      simp (disch := omega) only [e_62, w_62_0, w_62_1, w_62_3, w_62_4, w_62_5, w_62_6, w_62_7, w_62_8, w_62_9, w_62_10, w_62_11, w_62_12, w_62_13, w_62_14, w_62_15, getK, putK, ialK, iasK, aalK, aasK, alnK, zgt_u, zgt_a, Option.toList_some, Option.toList_none, List.cons_append, List.nil_append, List.map_cons, List.map_nil, List.replicate, ite_true, ite_false, if_true, if_false, List.getElem?_cons_zero, List.getElem?_cons_succ, List.set_cons_zero, List.set_cons_succ, true_and, and_true, beq_self_eq_true, zite, Int.toNat_natCast, if_pos, if_neg, zwr_id, zand, rTx_rc hX, s_matchAt hX hT hI hL]
      rw [e]
      exact ih (by omega)
    | some x =>
      rw [hf] at hge
      have hge : 0 ≤ ixf (enT T (i + 1) (n + 1)) 0 L := hge.mpr (by simp)
      simp (disch := omega) only [e_62, w_62_0, w_62_1, w_62_3, w_62_4, w_62_5, w_62_6, w_62_7, w_62_8, w_62_9, w_62_10, w_62_11, w_62_12, w_62_13, w_62_14, w_62_15, getK, putK, ialK, iasK, aalK, aasK, alnK, zgt_u, zgt_a, Option.toList_some, Option.toList_none, List.cons_append, List.nil_append, List.map_cons, List.map_nil, List.replicate, ite_true, ite_false, if_true, if_false, List.getElem?_cons_zero, List.getElem?_cons_succ, List.set_cons_zero, List.set_cons_succ, true_and, and_true, beq_self_eq_true, zite, Int.toNat_natCast, if_pos, if_neg, zwr_id, zand, rTx_rc hX, s_matchAt hX hT hI hL]
      rw [if_neg (by simp)]
theorem s_longestAt {i : Int} (hX : rTx h b len T) (hT : okT T len) (hI : rIt h lb L) (hL : L.length ≤ 24) (hs : srtL L) (h0 : 0 ≤ i) (hi : i < len) : zca sc 62 [.inr (.inl (some b)), .inl i, .inr (.inl (some lb))] h Q = Q (some (.inl (loD L T i 6))) h := by
  simp (disch := omega) only [e_62, w_62_0, w_62_1, w_62_3, w_62_4, w_62_5, w_62_6, w_62_7, w_62_8, w_62_9, w_62_10, w_62_11, w_62_12, w_62_13, w_62_14, w_62_15, getK, putK, ialK, iasK, aalK, aasK, alnK, zgt_u, zgt_a, Option.toList_some, Option.toList_none, List.cons_append, List.nil_append, List.map_cons, List.map_nil, List.replicate, ite_true, ite_false, if_true, if_false, List.getElem?_cons_zero, List.getElem?_cons_succ, List.set_cons_zero, List.set_cons_succ, true_and, and_true, beq_self_eq_true, zite, Int.toNat_natCast, if_pos, if_neg, zwr_id, zand]
  exact lp_longestAt (Q := Q) (sc := sc) hX hT hI hL hs h0 hi 6 (by omega)
end
