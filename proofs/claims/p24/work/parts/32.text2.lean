/-! THE TEXT AS A WHOLE -/
def sumF (f : Int → Int) : Nat → Int → Int
  | 0, _ => 0
  | j + 1, i => f i + sumF f j (i + 1)
theorem sumF_b {f : Int → Int} {K : Int} (hK : 0 ≤ K) : ∀ (j : Nat) (i : Int), (∀ k, i ≤ k → k < i + j → -K ≤ f k ∧ f k ≤ K) → -(K * j) ≤ sumF f j i ∧ sumF f j i ≤ K * j
  | 0, _, _ => by simp [sumF]
  | j + 1, i, h => by
    have h1 := h i (Int.le_refl _) (by omega)
    have h2 := sumF_b hK j (i + 1) (fun k a b => h k (by omega) (by omega))
    have e : K * ((j + 1 : Nat) : Int) = K * j + K := by rw [show ((j + 1 : Nat) : Int) = (j : Int) + 1 by omega, Int.mul_add, Int.mul_one]
    unfold sumF
    rw [e]
    omega
theorem sumF_cg {f g : Int → Int} : ∀ (j : Nat) (i : Int), (∀ k, i ≤ k → k < i + j → f k = g k) → sumF f j i = sumF g j i
  | 0, _, _ => rfl
  | j + 1, i, h => by
    unfold sumF
    rw [h i (Int.le_refl _) (by omega), sumF_cg j (i + 1) (fun k a b => h k (by omega) (by omega))]
/-- whether a letter is covered: j positions from e on -/
def cvB (lo : Int → Int) (i len : Int) : Nat → Int → Bool
  | 0, _ => false
  | j + 1, e => if e < len then (if e - i < lo e then true else cvB lo i len j (e + 1)) else false
def clR (lo : Int → Int) : Nat → Int → Int → Int
  | 0, _, c => c
  | n + 1, a, c => clR lo n (if a - 1 < lo n then lo n else a - 1) (if 0 < (if a - 1 < lo n then lo n else a - 1) then c + 1 else c)
def hvR (f : Int → Int) : Nat → Int → Int → Int → Int
  | 0, _, bst, _ => bst
  | j + 1, i, bst, bw => if bst = -9999 ∨ bw < f i then hvR f j (i + 1) i (f i) else hvR f j (i + 1) bst bw
theorem nd_tc {T : Int → Int} {len : Int} (hT : okT T len) : ∀ (n : Nat) (r : Int), (n : Int) ≤ r → r ≤ len → nd (tc T r n) = n
  | 0, r, _, _ => by unfold tc; rw [nd_0 (Int.le_refl _)]; rfl
  | n + 1, r, h1, h2 => by
    have ih := nd_tc hT n (r - 1) (by omega) (by omega)
    have hb := tc_b hT n (r - 1) (by omega) (by omega)
    have := hT.2.2 (r - 1) (by omega) (by omega)
    unfold tc
    rw [nd_p (by omega), show (tc T (r - 1) n * 10 + T (r - 1) + 1) / 10 = tc T (r - 1) n by omega, ih]
    omega
theorem wd_pos {c : Int} (h : wd c) : 0 < c := by unfold wd at h; omega
/-- a match of n letters has n letters -/
theorem fn_nd {T : Int → Int} {len r : Int} {n : Nat} {L : List zI} {x : zI} (hT : okT T len) (hr : r ≤ len) (ho : okIs L) (h : fn (enT T r n) L = some x) : (n : Int) ≤ r ∧ nd x.2.1 = n := by
  obtain ⟨h1, h2⟩ := fn_some h
  have h3 := wd_pos (ho x h1).2.2.1
  unfold enT at h2
  split at h2
  · omega
  · rw [h2]
    exact ⟨by omega, nd_tc hT n r (by omega) hr⟩
/-- divisions: one match offered at r, all matches there, all places -/
def dvX (F G : Int → Int) (r : Int) (x : zI) : (Int → Int) × (Int → Int) :=
  if F r < F (r - nd x.2.1) + x.2.2 ∨ (F (r - nd x.2.1) + x.2.2 = F r ∧ G (r - nd x.2.1) + 1 < G r) then (zup F r (F (r - nd x.2.1) + x.2.2), zup G r (G (r - nd x.2.1) + 1)) else (F, G)
def dvL (r : Int) : List zI → (Int → Int) × (Int → Int) → (Int → Int) × (Int → Int)
  | [], p => p
  | x :: l, p => dvL r l (dvX p.1 p.2 r x)
def dvR (M : Int → List zI) : Nat → (Int → Int) × (Int → Int)
  | 0 => (fun _ => 0, fun _ => 0)
  | n + 1 => dvL (n + 1 : Nat) (M n) (zup (dvR M n).1 (n + 1 : Nat) ((dvR M n).1 n), zup (dvR M n).2 (n + 1 : Nat) ((dvR M n).2 n))
def dvOk (p : (Int → Int) × (Int → Int)) (r : Int) : Prop := ∀ k, 0 ≤ k → k ≤ r → 0 ≤ p.1 k ∧ p.1 k ≤ 99 * k ∧ 0 ≤ p.2 k ∧ p.2 k ≤ k
def agr (f g : Int → Int) (r : Int) : Prop := ∀ k, 0 ≤ k → k ≤ r → f k = g k
theorem dvX_ok {p : (Int → Int) × (Int → Int)} {r : Int} {x : zI} (h : dvOk p r) (hn : 1 ≤ nd x.2.1 ∧ nd x.2.1 ≤ r) (hw : x.2.2 ≤ 99) : dvOk (dvX p.1 p.2 r x) r := by
  unfold dvX
  split
  next c =>
    intro k h0 h1
    by_cases hk : k = r
    · subst hk
      simp only [zup_s]
      have a := h k h0 h1
      have b := h (k - nd x.2.1) (by omega) (by omega)
      omega
    · simp only [zup_n hk]
      exact h k h0 h1
  next => exact h
section
variable {sc : Nat × (Int → Int)} {h : zH} {Q : Option zV → zH → Prop} {b lb : Nat} {L : List zI} {len : Int} {T : Int → Int}
theorem lp_occ {c : Int} (hX : rTx h b len T) (hT : okT T len) (hc : c ≤ 999999) : ∀ (j : Nat) (i a : Int), i + j = len → 0 ≤ i → 0 ≤ a → a ≤ i → zwp sc 49 4 [some (.inr (.inl (some b))), some (.inl c), some (.inl a), some (.inl i)] [] h Q = Q (some (.inl (a + sumF (fun i => zb (enT T (i + 1) (nd c).toNat = c)) j i))) h := by
  intro j
  have h60 := hT.2.1
  have h00 := hX.1
  induction j with
  | zero =>
    intro i a hi h0 ha hai
    rw [w_49_4]
    simp (disch := omega) only [e_49, w_49_0, w_49_1, w_49_2, w_49_3, w_49_5, w_49_6, w_49_7, w_49_8, w_49_9, w_49_10, w_49_11, w_49_12, w_49_13, w_49_14, w_49_15, w_49_16, w_49_17, getK, putK, ialK, iasK, aalK, aasK, alnK, zgt_u, zgt_a, Option.toList_some, Option.toList_none, List.cons_append, List.nil_append, List.map_cons, List.map_nil, List.replicate, ite_true, ite_false, if_true, if_false, List.getElem?_cons_zero, List.getElem?_cons_succ, List.set_cons_zero, List.set_cons_succ, true_and, and_true, beq_self_eq_true, zite, Int.toNat_natCast, if_pos, if_neg, zwr_id, zand, h00]
    unfold sumF
    rw [Int.add_zero]
  | succ j ih =>
    intro i a hi h0 ha hai
    rw [w_49_4]
    unfold sumF
    by_cases c1 : enT T (i + 1) (nd c).toNat = c
    · simp (disch := omega) only [e_49, w_49_0, w_49_1, w_49_2, w_49_3, w_49_5, w_49_6, w_49_7, w_49_8, w_49_9, w_49_10, w_49_11, w_49_12, w_49_13, w_49_14, w_49_15, w_49_16, w_49_17, getK, putK, ialK, iasK, aalK, aasK, alnK, zgt_u, zgt_a, Option.toList_some, Option.toList_none, List.cons_append, List.nil_append, List.map_cons, List.map_nil, List.replicate, ite_true, ite_false, if_true, if_false, List.getElem?_cons_zero, List.getElem?_cons_succ, List.set_cons_zero, List.set_cons_succ, true_and, and_true, beq_self_eq_true, zite, Int.toNat_natCast, if_pos, if_neg, zwr_id, zand, h00, rTx_rc hX, s_hasEnding hX hT, zb_eq]
      rw [ih (i + 1) (a + 1) (by omega) (by omega) (by omega) (by omega)]
      rw [zb_t c1, show a + 1 + sumF (fun i => zb (enT T (i + 1) (nd c).toNat = c)) j (i + 1) = a + (1 + sumF (fun i => zb (enT T (i + 1) (nd c).toNat = c)) j (i + 1)) by omega]
    · simp (disch := omega) only [e_49, w_49_0, w_49_1, w_49_2, w_49_3, w_49_5, w_49_6, w_49_7, w_49_8, w_49_9, w_49_10, w_49_11, w_49_12, w_49_13, w_49_14, w_49_15, w_49_16, w_49_17, getK, putK, ialK, iasK, aalK, aasK, alnK, zgt_u, zgt_a, Option.toList_some, Option.toList_none, List.cons_append, List.nil_append, List.map_cons, List.map_nil, List.replicate, ite_true, ite_false, if_true, if_false, List.getElem?_cons_zero, List.getElem?_cons_succ, List.set_cons_zero, List.set_cons_succ, true_and, and_true, beq_self_eq_true, zite, Int.toNat_natCast, if_pos, if_neg, zwr_id, zand, h00, rTx_rc hX, s_hasEnding hX hT, zb_eq]
      rw [ih (i + 1) a (by omega) (by omega) (by omega) (by omega)]
      rw [zb_f c1, Int.zero_add]
theorem s_occ {c : Int} (hX : rTx h b len T) (hT : okT T len) (hc : c ≤ 999999) : zca sc 49 [.inr (.inl (some b)), .inl c] h Q = Q (some (.inl (sumF (fun i => zb (enT T (i + 1) (nd c).toNat = c)) len.toNat 0))) h := by
  have := hT.1
  simp (disch := omega) only [e_49, w_49_0, w_49_1, w_49_2, w_49_3, w_49_5, w_49_6, w_49_7, w_49_8, w_49_9, w_49_10, w_49_11, w_49_12, w_49_13, w_49_14, w_49_15, w_49_16, w_49_17, getK, putK, ialK, iasK, aalK, aasK, alnK, zgt_u, zgt_a, Option.toList_some, Option.toList_none, List.cons_append, List.nil_append, List.map_cons, List.map_nil, List.replicate, ite_true, ite_false, if_true, if_false, List.getElem?_cons_zero, List.getElem?_cons_succ, List.set_cons_zero, List.set_cons_succ, true_and, and_true, beq_self_eq_true, zite, Int.toNat_natCast, if_pos, if_neg, zwr_id, zand]
  rw [lp_occ hX hT hc len.toNat 0 0 (by omega) (by omega) (by omega) (by omega), Int.zero_add]
theorem lp_matches (hX : rTx h b len T) (hT : okT T len) (hI : rIt h lb L) (hL : L.length ≤ 24) (hs : srtL L) : ∀ (j : Nat) (i a : Int), i + j = len → 0 ≤ i → 0 ≤ a → a ≤ 6 * i → zwp sc 54 4 [some (.inr (.inl (some b))), some (.inr (.inl (some lb))), some (.inl a), some (.inl i)] [] h Q = Q (some (.inl (a + sumF (fun i => (mN L T i 6 1).length) j i))) h := by
  intro j
  have h60 := hT.2.1
  have h00 := hX.1
  induction j with
  | zero =>
    intro i a hi h0 ha hai
    rw [w_54_4]
    simp (disch := omega) only [e_54, w_54_0, w_54_1, w_54_2, w_54_3, w_54_5, w_54_6, w_54_7, w_54_8, w_54_9, w_54_10, w_54_11, w_54_12, w_54_13, w_54_14, w_54_15, w_54_16, w_54_17, w_54_18, getK, putK, ialK, iasK, aalK, aasK, alnK, zgt_u, zgt_a, Option.toList_some, Option.toList_none, List.cons_append, List.nil_append, List.map_cons, List.map_nil, List.replicate, ite_true, ite_false, if_true, if_false, List.getElem?_cons_zero, List.getElem?_cons_succ, List.set_cons_zero, List.set_cons_succ, true_and, and_true, beq_self_eq_true, zite, Int.toNat_natCast, if_pos, if_neg, zwr_id, zand, h00]
    unfold sumF
    rw [Int.add_zero]
  | succ j ih =>
    intro i a hi h0 ha hai
    have hm := mN_len L T i 6 1
    rw [w_54_4]
    unfold sumF
    simp (disch := omega) only [e_54, w_54_0, w_54_1, w_54_2, w_54_3, w_54_5, w_54_6, w_54_7, w_54_8, w_54_9, w_54_10, w_54_11, w_54_12, w_54_13, w_54_14, w_54_15, w_54_16, w_54_17, w_54_18, getK, putK, ialK, iasK, aalK, aasK, alnK, zgt_u, zgt_a, Option.toList_some, Option.toList_none, List.cons_append, List.nil_append, List.map_cons, List.map_nil, List.replicate, ite_true, ite_false, if_true, if_false, List.getElem?_cons_zero, List.getElem?_cons_succ, List.set_cons_zero, List.set_cons_succ, true_and, and_true, beq_self_eq_true, zite, Int.toNat_natCast, if_pos, if_neg, zwr_id, zand, h00, rTx_rc hX, s_matchesAt hX hT hI hL hs, ih]
    rw [Int.add_assoc]
theorem s_matches (hX : rTx h b len T) (hT : okT T len) (hI : rIt h lb L) (hL : L.length ≤ 24) (hs : srtL L) : zca sc 54 [.inr (.inl (some b)), .inr (.inl (some lb))] h Q = Q (some (.inl (sumF (fun i => (mN L T i 6 1).length) len.toNat 0))) h := by
  have := hT.1
  simp (disch := omega) only [e_54, w_54_0, w_54_1, w_54_2, w_54_3, w_54_5, w_54_6, w_54_7, w_54_8, w_54_9, w_54_10, w_54_11, w_54_12, w_54_13, w_54_14, w_54_15, w_54_16, w_54_17, w_54_18, getK, putK, ialK, iasK, aalK, aasK, alnK, zgt_u, zgt_a, Option.toList_some, Option.toList_none, List.cons_append, List.nil_append, List.map_cons, List.map_nil, List.replicate, ite_true, ite_false, if_true, if_false, List.getElem?_cons_zero, List.getElem?_cons_succ, List.set_cons_zero, List.set_cons_succ, true_and, and_true, beq_self_eq_true, zite, Int.toNat_natCast, if_pos, if_neg, zwr_id, zand]
  rw [lp_matches hX hT hI hL hs len.toNat 0 0 (by omega) (by omega) (by omega) (by omega), Int.zero_add]
theorem lp_wom (hX : rTx h b len T) (hT : okT T len) (hI : rIt h lb L) (hL : L.length ≤ 24) (hs : srtL L) (ho : okIs L) : ∀ (j : Nat) (i a : Int), i + j = len → 0 ≤ i → -594 * i ≤ a → a ≤ 594 * i → zwp sc 55 4 [some (.inr (.inl (some b))), some (.inr (.inl (some lb))), some (.inl a), some (.inl i)] [] h Q = Q (some (.inl (a + sumF (fun i => wsum (mN L T i 6 1)) j i))) h := by
  intro j
  have h60 := hT.2.1
  have h00 := hX.1
  induction j with
  | zero =>
    intro i a hi h0 ha hai
    rw [w_55_4]
    simp (disch := omega) only [e_55, w_55_0, w_55_1, w_55_2, w_55_3, w_55_5, w_55_6, w_55_7, w_55_8, w_55_9, w_55_10, w_55_11, w_55_12, w_55_13, w_55_14, w_55_15, w_55_16, w_55_17, w_55_18, getK, putK, ialK, iasK, aalK, aasK, alnK, zgt_u, zgt_a, Option.toList_some, Option.toList_none, List.cons_append, List.nil_append, List.map_cons, List.map_nil, List.replicate, ite_true, ite_false, if_true, if_false, List.getElem?_cons_zero, List.getElem?_cons_succ, List.set_cons_zero, List.set_cons_succ, true_and, and_true, beq_self_eq_true, zite, Int.toNat_natCast, if_pos, if_neg, zwr_id, zand, h00]
    unfold sumF
    rw [Int.add_zero]
  | succ j ih =>
    intro i a hi h0 ha hai
    have hm := mN_w ho T i 6 1
    rw [w_55_4]
    unfold sumF
    simp (disch := omega) only [e_55, w_55_0, w_55_1, w_55_2, w_55_3, w_55_5, w_55_6, w_55_7, w_55_8, w_55_9, w_55_10, w_55_11, w_55_12, w_55_13, w_55_14, w_55_15, w_55_16, w_55_17, w_55_18, getK, putK, ialK, iasK, aalK, aasK, alnK, zgt_u, zgt_a, Option.toList_some, Option.toList_none, List.cons_append, List.nil_append, List.map_cons, List.map_nil, List.replicate, ite_true, ite_false, if_true, if_false, List.getElem?_cons_zero, List.getElem?_cons_succ, List.set_cons_zero, List.set_cons_succ, true_and, and_true, beq_self_eq_true, zite, Int.toNat_natCast, if_pos, if_neg, zwr_id, zand, h00, rTx_rc hX, s_weightAt4 hX hT hI hL hs ho, ih]
    rw [Int.add_assoc]
theorem s_wom (hX : rTx h b len T) (hT : okT T len) (hI : rIt h lb L) (hL : L.length ≤ 24) (hs : srtL L) (ho : okIs L) : zca sc 55 [.inr (.inl (some b)), .inr (.inl (some lb))] h Q = Q (some (.inl (sumF (fun i => wsum (mN L T i 6 1)) len.toNat 0))) h := by
  have := hT.1
  simp (disch := omega) only [e_55, w_55_0, w_55_1, w_55_2, w_55_3, w_55_5, w_55_6, w_55_7, w_55_8, w_55_9, w_55_10, w_55_11, w_55_12, w_55_13, w_55_14, w_55_15, w_55_16, w_55_17, w_55_18, getK, putK, ialK, iasK, aalK, aasK, alnK, zgt_u, zgt_a, Option.toList_some, Option.toList_none, List.cons_append, List.nil_append, List.map_cons, List.map_nil, List.replicate, ite_true, ite_false, if_true, if_false, List.getElem?_cons_zero, List.getElem?_cons_succ, List.set_cons_zero, List.set_cons_succ, true_and, and_true, beq_self_eq_true, zite, Int.toNat_natCast, if_pos, if_neg, zwr_id, zand]
  rw [lp_wom hX hT hI hL hs ho len.toNat 0 0 (by omega) (by omega) (by omega) (by omega), Int.zero_add]
theorem s_longestCodeAt {i : Int} (hX : rTx h b len T) (hT : okT T len) (hI : rIt h lb L) (hL : L.length ≤ 24) (hs : srtL L) (h0 : 0 ≤ i) (hi : i < len) : zca sc 52 [.inr (.inl (some b)), .inl i, .inr (.inl (some lb))] h Q = Q (some (.inl (if loD L T i 6 = 0 then -9999 else enT T (i + 1) (loD L T i 6).toNat))) h := by
  have h60 := hT.2.1
  have hb := loD_b L T i 6
  generalize hm : (loD L T i 6).toNat = n
  have e : loD L T i 6 = n := by omega
  by_cases c : loD L T i 6 = 0
  · rw [if_pos c]
    simp (disch := omega) only [e_52, w_52_0, w_52_1, w_52_2, w_52_3, w_52_4, w_52_5, w_52_6, w_52_7, w_52_8, w_52_9, w_52_10, w_52_11, w_52_12, w_52_13, w_52_14, w_52_15, getK, putK, ialK, iasK, aalK, aasK, alnK, zgt_u, zgt_a, Option.toList_some, Option.toList_none, List.cons_append, List.nil_append, List.map_cons, List.map_nil, List.replicate, ite_true, ite_false, if_true, if_false, List.getElem?_cons_zero, List.getElem?_cons_succ, List.set_cons_zero, List.set_cons_succ, true_and, and_true, beq_self_eq_true, zite, Int.toNat_natCast, if_pos, if_neg, zwr_id, zand, rTx_rc hX, s_longestAt hX hT hI hL hs]
  · rw [if_neg c]
    simp (disch := omega) only [e_52, w_52_0, w_52_1, w_52_2, w_52_3, w_52_4, w_52_5, w_52_6, w_52_7, w_52_8, w_52_9, w_52_10, w_52_11, w_52_12, w_52_13, w_52_14, w_52_15, getK, putK, ialK, iasK, aalK, aasK, alnK, zgt_u, zgt_a, Option.toList_some, Option.toList_none, List.cons_append, List.nil_append, List.map_cons, List.map_nil, List.replicate, ite_true, ite_false, if_true, if_false, List.getElem?_cons_zero, List.getElem?_cons_succ, List.set_cons_zero, List.set_cons_succ, true_and, and_true, beq_self_eq_true, zite, Int.toNat_natCast, if_pos, if_neg, zwr_id, zand, rTx_rc hX, s_longestAt hX hT hI hL hs]
    rw [e, s_ending hX hT (by omega) (by omega) (by omega)]
    simp (disch := omega) only [e_52, w_52_0, w_52_1, w_52_2, w_52_3, w_52_4, w_52_5, w_52_6, w_52_7, w_52_8, w_52_9, w_52_10, w_52_11, w_52_12, w_52_13, w_52_14, w_52_15, getK, putK, ialK, iasK, aalK, aasK, alnK, zgt_u, zgt_a, Option.toList_some, Option.toList_none, List.cons_append, List.nil_append, List.map_cons, List.map_nil, List.replicate, ite_true, ite_false, if_true, if_false, List.getElem?_cons_zero, List.getElem?_cons_succ, List.set_cons_zero, List.set_cons_succ, true_and, and_true, beq_self_eq_true, zite, Int.toNat_natCast, if_pos, if_neg, zwr_id, zand]
theorem lp_covers {i : Int} (hX : rTx h b len T) (hT : okT T len) (hI : rIt h lb L) (hL : L.length ≤ 24) (hs : srtL L) (h0 : 0 ≤ i) (hi : i < len) : ∀ (j : Nat) (e : Int), e + j = i + 6 → i ≤ e → zwp sc 53 2 [some (.inr (.inl (some b))), some (.inl i), some (.inr (.inl (some lb))), some (.inl e)] [] h Q = Q (some (.inl (zb (cvB (fun e => loD L T e 6) i len j e = true)))) h := by
  intro j
  have h60 := hT.2.1
  have h00 := hX.1
  induction j with
  | zero =>
    intro e he h1
    rw [w_53_2, zb_f (by simp [cvB])]
    simp (disch := omega) only [e_53, w_53_0, w_53_1, w_53_3, w_53_4, w_53_5, w_53_6, w_53_7, w_53_8, w_53_9, w_53_10, w_53_11, w_53_12, w_53_13, w_53_14, w_53_15, w_53_16, w_53_17, w_53_18, w_53_19, w_53_20, w_53_21, w_53_22, w_53_23, w_53_24, getK, putK, ialK, iasK, aalK, aasK, alnK, zgt_u, zgt_a, Option.toList_some, Option.toList_none, List.cons_append, List.nil_append, List.map_cons, List.map_nil, List.replicate, ite_true, ite_false, if_true, if_false, List.getElem?_cons_zero, List.getElem?_cons_succ, List.set_cons_zero, List.set_cons_succ, true_and, and_true, beq_self_eq_true, zite, Int.toNat_natCast, if_pos, if_neg, zwr_id, zand, h00, true_or, or_true]
  | succ j ih =>
    intro e he h1
    rw [w_53_2]
    unfold cvB
    by_cases c1 : e < len
    · by_cases c2 : e - i < loD L T e 6
      · rw [zb_t (by simp only [c1, c2, if_true])]
        simp (disch := omega) only [e_53, w_53_0, w_53_1, w_53_3, w_53_4, w_53_5, w_53_6, w_53_7, w_53_8, w_53_9, w_53_10, w_53_11, w_53_12, w_53_13, w_53_14, w_53_15, w_53_16, w_53_17, w_53_18, w_53_19, w_53_20, w_53_21, w_53_22, w_53_23, w_53_24, getK, putK, ialK, iasK, aalK, aasK, alnK, zgt_u, zgt_a, Option.toList_some, Option.toList_none, List.cons_append, List.nil_append, List.map_cons, List.map_nil, List.replicate, ite_true, ite_false, if_true, if_false, List.getElem?_cons_zero, List.getElem?_cons_succ, List.set_cons_zero, List.set_cons_succ, true_and, and_true, beq_self_eq_true, zite, Int.toNat_natCast, if_pos, if_neg, zwr_id, zand, h00, rTx_rc hX, s_longestAt hX hT hI hL hs, true_or, or_true]
      · simp only [c1, c2, if_true, if_false]
        simp (disch := omega) only [e_53, w_53_0, w_53_1, w_53_3, w_53_4, w_53_5, w_53_6, w_53_7, w_53_8, w_53_9, w_53_10, w_53_11, w_53_12, w_53_13, w_53_14, w_53_15, w_53_16, w_53_17, w_53_18, w_53_19, w_53_20, w_53_21, w_53_22, w_53_23, w_53_24, getK, putK, ialK, iasK, aalK, aasK, alnK, zgt_u, zgt_a, Option.toList_some, Option.toList_none, List.cons_append, List.nil_append, List.map_cons, List.map_nil, List.replicate, ite_true, ite_false, if_true, if_false, List.getElem?_cons_zero, List.getElem?_cons_succ, List.set_cons_zero, List.set_cons_succ, true_and, and_true, beq_self_eq_true, zite, Int.toNat_natCast, if_pos, if_neg, zwr_id, zand, h00, rTx_rc hX, s_longestAt hX hT hI hL hs, true_or, or_true, ih]
    · rw [zb_f (by simp only [c1, if_false]; simp)]
      simp (disch := omega) only [e_53, w_53_0, w_53_1, w_53_3, w_53_4, w_53_5, w_53_6, w_53_7, w_53_8, w_53_9, w_53_10, w_53_11, w_53_12, w_53_13, w_53_14, w_53_15, w_53_16, w_53_17, w_53_18, w_53_19, w_53_20, w_53_21, w_53_22, w_53_23, w_53_24, getK, putK, ialK, iasK, aalK, aasK, alnK, zgt_u, zgt_a, Option.toList_some, Option.toList_none, List.cons_append, List.nil_append, List.map_cons, List.map_nil, List.replicate, ite_true, ite_false, if_true, if_false, List.getElem?_cons_zero, List.getElem?_cons_succ, List.set_cons_zero, List.set_cons_succ, true_and, and_true, beq_self_eq_true, zite, Int.toNat_natCast, if_pos, if_neg, zwr_id, zand, h00, true_or, or_true]
theorem s_covers {i : Int} (hX : rTx h b len T) (hT : okT T len) (hI : rIt h lb L) (hL : L.length ≤ 24) (hs : srtL L) (h0 : 0 ≤ i) (hi : i < len) : zca sc 53 [.inr (.inl (some b)), .inl i, .inr (.inl (some lb))] h Q = Q (some (.inl (zb (cvB (fun e => loD L T e 6) i len 6 i = true)))) h := by
  simp (disch := omega) only [e_53, w_53_0, w_53_1, w_53_3, w_53_4, w_53_5, w_53_6, w_53_7, w_53_8, w_53_9, w_53_10, w_53_11, w_53_12, w_53_13, w_53_14, w_53_15, w_53_16, w_53_17, w_53_18, w_53_19, w_53_20, w_53_21, w_53_22, w_53_23, w_53_24, getK, putK, ialK, iasK, aalK, aasK, alnK, zgt_u, zgt_a, Option.toList_some, Option.toList_none, List.cons_append, List.nil_append, List.map_cons, List.map_nil, List.replicate, ite_true, ite_false, if_true, if_false, List.getElem?_cons_zero, List.getElem?_cons_succ, List.set_cons_zero, List.set_cons_succ, true_and, and_true, beq_self_eq_true, zite, Int.toNat_natCast, if_pos, if_neg, zwr_id, zand]
  exact lp_covers hX hT hI hL hs h0 hi 6 i (by omega) (by omega)
theorem lp_coveredLetters (hX : rTx h b len T) (hT : okT T len) (hI : rIt h lb L) (hL : L.length ≤ 24) (hs : srtL L) : ∀ (n : Nat) (a c : Int), (n : Int) ≤ len → -100 + n ≤ a → a ≤ 6 → 0 ≤ c → c + n ≤ 100 → zwp sc 56 9 [some (.inr (.inl (some b))), some (.inr (.inl (some lb))), some (.inl c), some (.inl a), some (.inl ((n : Int) - 1))] [] h Q = Q (some (.inl (clR (fun e => loD L T e 6) n a c))) h := by
  intro n
  have h60 := hT.2.1
  have h00 := hX.1
  induction n with
  | zero =>
    intro a c hn ha ha2 hc hc2
    rw [w_56_9]
    simp (disch := omega) only [e_56, w_56_0, w_56_1, w_56_2, w_56_3, w_56_4, w_56_5, w_56_6, w_56_7, w_56_8, w_56_10, w_56_11, w_56_12, w_56_13, w_56_14, w_56_15, w_56_16, w_56_17, w_56_18, w_56_19, w_56_20, w_56_21, w_56_22, w_56_23, w_56_24, w_56_25, w_56_26, getK, putK, ialK, iasK, aalK, aasK, alnK, zgt_u, zgt_a, Option.toList_some, Option.toList_none, List.cons_append, List.nil_append, List.map_cons, List.map_nil, List.replicate, ite_true, ite_false, if_true, if_false, List.getElem?_cons_zero, List.getElem?_cons_succ, List.set_cons_zero, List.set_cons_succ, true_and, and_true, beq_self_eq_true, zite, Int.toNat_natCast, if_pos, if_neg, zwr_id, zand, h00]
    rfl
  | succ n ih =>
    intro a c hn ha ha2 hc hc2
    have hb := loD_b L T n 6
    have e : ((n + 1 : Nat) : Int) - 1 = n := by omega
    rw [w_56_9]
    unfold clR
    rw [e]
    by_cases c1 : a - 1 < loD L T n 6
    · by_cases c2 : 0 < loD L T n 6
      · simp (disch := omega) only [e_56, w_56_0, w_56_1, w_56_2, w_56_3, w_56_4, w_56_5, w_56_6, w_56_7, w_56_8, w_56_10, w_56_11, w_56_12, w_56_13, w_56_14, w_56_15, w_56_16, w_56_17, w_56_18, w_56_19, w_56_20, w_56_21, w_56_22, w_56_23, w_56_24, w_56_25, w_56_26, getK, putK, ialK, iasK, aalK, aasK, alnK, zgt_u, zgt_a, Option.toList_some, Option.toList_none, List.cons_append, List.nil_append, List.map_cons, List.map_nil, List.replicate, ite_true, ite_false, if_true, if_false, List.getElem?_cons_zero, List.getElem?_cons_succ, List.set_cons_zero, List.set_cons_succ, true_and, and_true, beq_self_eq_true, zite, Int.toNat_natCast, if_pos, if_neg, zwr_id, zand, h00, rTx_rc hX, s_longestAt hX hT hI hL hs]
        rw [Int.add_neg_one, ih _ _ (by omega) (by omega) (by omega) (by omega) (by omega)]
      · simp (disch := omega) only [e_56, w_56_0, w_56_1, w_56_2, w_56_3, w_56_4, w_56_5, w_56_6, w_56_7, w_56_8, w_56_10, w_56_11, w_56_12, w_56_13, w_56_14, w_56_15, w_56_16, w_56_17, w_56_18, w_56_19, w_56_20, w_56_21, w_56_22, w_56_23, w_56_24, w_56_25, w_56_26, getK, putK, ialK, iasK, aalK, aasK, alnK, zgt_u, zgt_a, Option.toList_some, Option.toList_none, List.cons_append, List.nil_append, List.map_cons, List.map_nil, List.replicate, ite_true, ite_false, if_true, if_false, List.getElem?_cons_zero, List.getElem?_cons_succ, List.set_cons_zero, List.set_cons_succ, true_and, and_true, beq_self_eq_true, zite, Int.toNat_natCast, if_pos, if_neg, zwr_id, zand, h00, rTx_rc hX, s_longestAt hX hT hI hL hs]
        rw [Int.add_neg_one, ih _ _ (by omega) (by omega) (by omega) (by omega) (by omega)]
    · by_cases c2 : 0 < a - 1
      · simp (disch := omega) only [e_56, w_56_0, w_56_1, w_56_2, w_56_3, w_56_4, w_56_5, w_56_6, w_56_7, w_56_8, w_56_10, w_56_11, w_56_12, w_56_13, w_56_14, w_56_15, w_56_16, w_56_17, w_56_18, w_56_19, w_56_20, w_56_21, w_56_22, w_56_23, w_56_24, w_56_25, w_56_26, getK, putK, ialK, iasK, aalK, aasK, alnK, zgt_u, zgt_a, Option.toList_some, Option.toList_none, List.cons_append, List.nil_append, List.map_cons, List.map_nil, List.replicate, ite_true, ite_false, if_true, if_false, List.getElem?_cons_zero, List.getElem?_cons_succ, List.set_cons_zero, List.set_cons_succ, true_and, and_true, beq_self_eq_true, zite, Int.toNat_natCast, if_pos, if_neg, zwr_id, zand, h00, rTx_rc hX, s_longestAt hX hT hI hL hs]
        rw [Int.add_neg_one, ih _ _ (by omega) (by omega) (by omega) (by omega) (by omega)]
      · simp (disch := omega) only [e_56, w_56_0, w_56_1, w_56_2, w_56_3, w_56_4, w_56_5, w_56_6, w_56_7, w_56_8, w_56_10, w_56_11, w_56_12, w_56_13, w_56_14, w_56_15, w_56_16, w_56_17, w_56_18, w_56_19, w_56_20, w_56_21, w_56_22, w_56_23, w_56_24, w_56_25, w_56_26, getK, putK, ialK, iasK, aalK, aasK, alnK, zgt_u, zgt_a, Option.toList_some, Option.toList_none, List.cons_append, List.nil_append, List.map_cons, List.map_nil, List.replicate, ite_true, ite_false, if_true, if_false, List.getElem?_cons_zero, List.getElem?_cons_succ, List.set_cons_zero, List.set_cons_succ, true_and, and_true, beq_self_eq_true, zite, Int.toNat_natCast, if_pos, if_neg, zwr_id, zand, h00, rTx_rc hX, s_longestAt hX hT hI hL hs]
        rw [Int.add_neg_one, ih _ _ (by omega) (by omega) (by omega) (by omega) (by omega)]
theorem s_coveredLetters (hX : rTx h b len T) (hT : okT T len) (hI : rIt h lb L) (hL : L.length ≤ 24) (hs : srtL L) : zca sc 56 [.inr (.inl (some b)), .inr (.inl (some lb))] h Q = Q (some (.inl (clR (fun e => loD L T e 6) len.toNat 0 0))) h := by
  have h0 := hT.1
  have h60 := hT.2.1
  have h00 := hX.1
  simp (disch := omega) only [e_56, w_56_0, w_56_1, w_56_2, w_56_3, w_56_4, w_56_5, w_56_6, w_56_7, w_56_8, w_56_10, w_56_11, w_56_12, w_56_13, w_56_14, w_56_15, w_56_16, w_56_17, w_56_18, w_56_19, w_56_20, w_56_21, w_56_22, w_56_23, w_56_24, w_56_25, w_56_26, getK, putK, ialK, iasK, aalK, aasK, alnK, zgt_u, zgt_a, Option.toList_some, Option.toList_none, List.cons_append, List.nil_append, List.map_cons, List.map_nil, List.replicate, ite_true, ite_false, if_true, if_false, List.getElem?_cons_zero, List.getElem?_cons_succ, List.set_cons_zero, List.set_cons_succ, true_and, and_true, beq_self_eq_true, zite, Int.toNat_natCast, if_pos, if_neg, zwr_id, zand, h00]
  have := lp_coveredLetters (Q := Q) (sc := sc) hX hT hI hL hs len.toNat 0 0 (by omega) (by omega) (by omega) (by omega) (by omega)
  rw [show ((len.toNat : Nat) : Int) = len by omega] at this
  exact this
theorem lp_heaviest (hX : rTx h b len T) (hT : okT T len) (hI : rIt h lb L) (hL : L.length ≤ 24) (hs : srtL L) (ho : okIs L) : ∀ (j : Nat) (i bst bw : Int) (l5 : Option zV), i + j = len → 0 ≤ i → zwp sc 57 6 [some (.inr (.inl (some b))), some (.inr (.inl (some lb))), some (.inl bst), some (.inl bw), some (.inl i), l5] [] h Q = Q (some (.inl (hvR (fun i => wsum (mN L T i 6 1)) j i bst bw))) h := by
  intro j
  have h60 := hT.2.1
  have h00 := hX.1
  induction j with
  | zero =>
    intro i bst bw l5 hi h0
    rw [w_57_6]
    simp (disch := omega) only [e_57, w_57_0, w_57_1, w_57_2, w_57_3, w_57_4, w_57_5, w_57_7, w_57_8, w_57_9, w_57_10, w_57_11, w_57_12, w_57_13, w_57_14, w_57_15, w_57_16, w_57_17, w_57_18, w_57_19, w_57_20, w_57_21, w_57_22, w_57_23, w_57_24, w_57_25, w_57_26, w_57_27, w_57_28, getK, putK, ialK, iasK, aalK, aasK, alnK, zgt_u, zgt_a, Option.toList_some, Option.toList_none, List.cons_append, List.nil_append, List.map_cons, List.map_nil, List.replicate, ite_true, ite_false, if_true, if_false, List.getElem?_cons_zero, List.getElem?_cons_succ, List.set_cons_zero, List.set_cons_succ, true_and, and_true, beq_self_eq_true, zite, Int.toNat_natCast, if_pos, if_neg, zwr_id, zand, h00]
    rfl
  | succ j ih =>
    intro i bst bw l5 hi h0
    rw [w_57_6]
    unfold hvR
    by_cases c1 : bst = -9999
    · rw [if_pos (Or.inl c1)]
      simp (disch := omega) only [e_57, w_57_0, w_57_1, w_57_2, w_57_3, w_57_4, w_57_5, w_57_7, w_57_8, w_57_9, w_57_10, w_57_11, w_57_12, w_57_13, w_57_14, w_57_15, w_57_16, w_57_17, w_57_18, w_57_19, w_57_20, w_57_21, w_57_22, w_57_23, w_57_24, w_57_25, w_57_26, w_57_27, w_57_28, getK, putK, ialK, iasK, aalK, aasK, alnK, zgt_u, zgt_a, Option.toList_some, Option.toList_none, List.cons_append, List.nil_append, List.map_cons, List.map_nil, List.replicate, ite_true, ite_false, if_true, if_false, List.getElem?_cons_zero, List.getElem?_cons_succ, List.set_cons_zero, List.set_cons_succ, true_and, and_true, beq_self_eq_true, zite, Int.toNat_natCast, if_pos, if_neg, zwr_id, zand, h00, rTx_rc hX, s_weightAt4 hX hT hI hL hs ho, ih]
    · by_cases c2 : bw < wsum (mN L T i 6 1)
      · rw [if_pos (Or.inr c2)]
        simp (disch := omega) only [e_57, w_57_0, w_57_1, w_57_2, w_57_3, w_57_4, w_57_5, w_57_7, w_57_8, w_57_9, w_57_10, w_57_11, w_57_12, w_57_13, w_57_14, w_57_15, w_57_16, w_57_17, w_57_18, w_57_19, w_57_20, w_57_21, w_57_22, w_57_23, w_57_24, w_57_25, w_57_26, w_57_27, w_57_28, getK, putK, ialK, iasK, aalK, aasK, alnK, zgt_u, zgt_a, Option.toList_some, Option.toList_none, List.cons_append, List.nil_append, List.map_cons, List.map_nil, List.replicate, ite_true, ite_false, if_true, if_false, List.getElem?_cons_zero, List.getElem?_cons_succ, List.set_cons_zero, List.set_cons_succ, true_and, and_true, beq_self_eq_true, zite, Int.toNat_natCast, if_pos, if_neg, zwr_id, zand, h00, rTx_rc hX, s_weightAt4 hX hT hI hL hs ho, ih]
      · rw [if_neg (fun q => q.elim c1 c2)]
        simp (disch := omega) only [e_57, w_57_0, w_57_1, w_57_2, w_57_3, w_57_4, w_57_5, w_57_7, w_57_8, w_57_9, w_57_10, w_57_11, w_57_12, w_57_13, w_57_14, w_57_15, w_57_16, w_57_17, w_57_18, w_57_19, w_57_20, w_57_21, w_57_22, w_57_23, w_57_24, w_57_25, w_57_26, w_57_27, w_57_28, getK, putK, ialK, iasK, aalK, aasK, alnK, zgt_u, zgt_a, Option.toList_some, Option.toList_none, List.cons_append, List.nil_append, List.map_cons, List.map_nil, List.replicate, ite_true, ite_false, if_true, if_false, List.getElem?_cons_zero, List.getElem?_cons_succ, List.set_cons_zero, List.set_cons_succ, true_and, and_true, beq_self_eq_true, zite, Int.toNat_natCast, if_pos, if_neg, zwr_id, zand, h00, rTx_rc hX, s_weightAt4 hX hT hI hL hs ho, ih]
theorem s_heaviest (hX : rTx h b len T) (hT : okT T len) (hI : rIt h lb L) (hL : L.length ≤ 24) (hs : srtL L) (ho : okIs L) : zca sc 57 [.inr (.inl (some b)), .inr (.inl (some lb))] h Q = Q (some (.inl (hvR (fun i => wsum (mN L T i 6 1)) len.toNat 0 (-9999) 0))) h := by
  have := hT.1
  simp (disch := omega) only [e_57, w_57_0, w_57_1, w_57_2, w_57_3, w_57_4, w_57_5, w_57_7, w_57_8, w_57_9, w_57_10, w_57_11, w_57_12, w_57_13, w_57_14, w_57_15, w_57_16, w_57_17, w_57_18, w_57_19, w_57_20, w_57_21, w_57_22, w_57_23, w_57_24, w_57_25, w_57_26, w_57_27, w_57_28, getK, putK, ialK, iasK, aalK, aasK, alnK, zgt_u, zgt_a, Option.toList_some, Option.toList_none, List.cons_append, List.nil_append, List.map_cons, List.map_nil, List.replicate, ite_true, ite_false, if_true, if_false, List.getElem?_cons_zero, List.getElem?_cons_succ, List.set_cons_zero, List.set_cons_succ, true_and, and_true, beq_self_eq_true, zite, Int.toNat_natCast, if_pos, if_neg, zwr_id, zand]
  exact lp_heaviest hX hT hI hL hs ho len.toNat 0 _ _ _ (by omega) (by omega)
end
