/-! THE MODEL -/
def rF (w : Int → Int) (b : Int) (M : List zI) : Prop := w b = M.length ∧ ∀ k : Int, 0 ≤ k → k < M.length → w (b + 1 + k) = (gI M k).2.1 ∧ w (b + 1 + 64 + k) = (gI M k).2.2 ∧ w (b + 1 + 128 + k) = (gI M k).1
def rL (w : Int → Int) (L : List zI) : Prop := w 0 = L.length ∧ ∀ k : Int, 0 ≤ k → k < L.length → w (1 + k) = (gI L k).2.1 ∧ w (25 + k) = (gI L k).2.2
def rW (w : Int → Int) (S : zDt) : Prop := rL w S.1 ∧ rF w 49 S.2.1 ∧ rF w 242 S.2.2.1 ∧ w 435 = S.2.2.2.1 ∧ w 436 = S.2.2.2.2
theorem rF_eq {w w' : Int → Int} {b : Int} {M : List zI} (hF : rF w b M) (hl : M.length ≤ 64) (h : ∀ k, b ≤ k → k < b + 193 → w' k = w k) : rF w' b M := by
  refine ⟨by rw [h b (by omega) (by omega)]; exact hF.1, fun k h0 h1 => ?_⟩
  rw [h _ (by omega) (by omega), h _ (by omega) (by omega), h _ (by omega) (by omega)]
  exact hF.2 k h0 h1
theorem rL_eq {w w' : Int → Int} {L : List zI} (hF : rL w L) (hl : L.length ≤ 24) (h : ∀ k, 0 ≤ k → k < 49 → w' k = w k) : rL w' L := by
  refine ⟨by rw [h 0 (by omega) (by omega)]; exact hF.1, fun k h0 h1 => ?_⟩
  rw [h _ (by omega) (by omega), h _ (by omega) (by omega)]
  exact hF.2 k h0 h1
theorem rW_eq {w w' : Int → Int} {S : zDt} (hF : rW w S) (hok : okDt S) (h : ∀ k, 0 ≤ k → k < 437 → w' k = w k) : rW w' S := by
  obtain ⟨o1, o2, o3, o4, o5, o6, o7, -⟩ := hok
  exact ⟨rL_eq hF.1 o5 (fun k a b => h k a (by omega)), rF_eq hF.2.1 (by omega) (fun k a b => h k (by omega) (by omega)), rF_eq hF.2.2.1 (by omega) (fun k a b => h k (by omega) (by omega)), by rw [h 435 (by omega) (by omega)]; exact hF.2.2.2.1, by rw [h 436 (by omega) (by omega)]; exact hF.2.2.2.2⟩
def rP (pa : Int → Int) (H : List zDt) : Prop := ∀ j : Nat, j < H.length → ∃ D, H[j]? = some D ∧ rW (fun k => pa (437 * (H.length - 1 - j) + k)) D
def rV (im : Int → Int) (i : Int) (I : Option zDt) : Prop := ∀ D, I = some D → rW (fun k => im (437 * i + k)) D
def fil (I0 I1 : Option zDt) : Int := (if I0.isSome = true then 1 else 0) + (if I1.isSome = true then 2 else 0)
def rM (h : zH) (z : zS) : Prop := zgt h 24 = .inl (6, [.inr (.inl (some 25)), .inr (.inl (some 26)), .inl (z.H.length), .inr (.inl (some 27)), .inl ( fil z.I0 z.I1), .inl ( z.p), .inr (.inl (some 28)), .inl ( z.n), .inr (.inl (some 29)), .inr (.inl (some 30)), .inr (.inl (some 31))]) ∧ (∃ w, zgt h 25 = .inr (.inl (437, w)) ∧ rW w z.S) ∧ (∃ pa, zgt h 26 = .inr (.inl (3496, pa)) ∧ rP pa z.H) ∧ (∃ im, zgt h 27 = .inr (.inl (874, im)) ∧ rV im 0 z.I0 ∧ rV im 1 z.I1) ∧ zgt h 28 = .inr (.inl (60, z.T)) ∧ (∃ f, zgt h 29 = .inr (.inl (400, f))) ∧ (∃ f, zgt h 30 = .inr (.inl (61, f))) ∧ ∃ f, zgt h 31 = .inr (.inl (61, f))
theorem rM_eq {h h' : zH} {z : zS} (hM : rM h z) (hf : ∀ k, 24 ≤ k → k < 32 → zgt h' k = zgt h k) : rM h' z := by
  unfold rM
  rw [hf 24 (by omega) (by omega), hf 25 (by omega) (by omega), hf 26 (by omega) (by omega), hf 27 (by omega) (by omega), hf 28 (by omega) (by omega), hf 29 (by omega) (by omega), hf 30 (by omega) (by omega), hf 31 (by omega) (by omega)]
  exact hM
section
variable {sc : Nat × (Int → Int)} {h : zH} {Q : Option zV → zH → Prop} {z : zS}
theorem rM_p {v : Int} (hM : rM h z) : rM (zuH h 24 (.inl (6, [.inr (.inl (some 25)), .inr (.inl (some 26)), .inl (z.H.length), .inr (.inl (some 27)), .inl ( fil z.I0 z.I1), .inl ( v), .inr (.inl (some 28)), .inl ( z.n), .inr (.inl (some 29)), .inr (.inl (some 30)), .inr (.inl (some 31))]))) (z.uP v) := by
  obtain ⟨m0, ⟨w, m1, m1'⟩, ⟨pa, m2, m2'⟩, ⟨im, m3, m3'⟩, m4, ⟨f5, m5⟩, ⟨f6, m6⟩, f7, m7⟩ := hM
  refine ⟨by rw [zgt_u, if_pos rfl], ⟨w, ?_, m1'⟩, ⟨pa, ?_, m2'⟩, ⟨im, ?_, m3'⟩, ?_, ⟨f5, ?_⟩, ⟨f6, ?_⟩, ⟨f7, ?_⟩⟩
  all_goals rw [zgt_u, if_neg (by omega)]; assumption
theorem rM_n {v : Int} (hM : rM h z) : rM (zuH h 24 (.inl (6, [.inr (.inl (some 25)), .inr (.inl (some 26)), .inl (z.H.length), .inr (.inl (some 27)), .inl ( fil z.I0 z.I1), .inl ( z.p), .inr (.inl (some 28)), .inl ( v), .inr (.inl (some 29)), .inr (.inl (some 30)), .inr (.inl (some 31))]))) (z.uN v) := by
  obtain ⟨m0, ⟨w, m1, m1'⟩, ⟨pa, m2, m2'⟩, ⟨im, m3, m3'⟩, m4, ⟨f5, m5⟩, ⟨f6, m6⟩, f7, m7⟩ := hM
  refine ⟨by rw [zgt_u, if_pos rfl], ⟨w, ?_, m1'⟩, ⟨pa, ?_, m2'⟩, ⟨im, ?_, m3'⟩, ?_, ⟨f5, ?_⟩, ⟨f6, ?_⟩, ⟨f7, ?_⟩⟩
  all_goals rw [zgt_u, if_neg (by omega)]; assumption
theorem s6_write {x : Int} (hM : rM h z) (hz : okZ z) (hQ : ∀ h', rM h' (wrS z x).2 → fr h h' 24 8 → Q (some (.inl (wrS z x).1)) h') : zca sc 97 [.inr (.inl (some 24)), .inl x] h Q := by
  have hp := okZ_p hz
  have m0 := hM.1
  unfold wrS at hQ
  by_cases h1 : 0 ≤ x ∧ x ≤ 3
  · rw [if_pos h1] at hQ
    by_cases h3 : 6 ≤ nd z.p
    · rw [if_pos h3] at hQ
      simp (disch := omega) only [e_97, w_97_0, w_97_1, w_97_2, w_97_3, w_97_4, w_97_5, w_97_6, w_97_7, w_97_8, w_97_9, w_97_10, w_97_11, w_97_12, w_97_13, w_97_14, w_97_15, w_97_16, w_97_17, w_97_18, w_97_19, w_97_20, w_97_21, w_97_22, w_97_23, w_97_24, w_97_25, w_97_26, w_97_27, getK, putK, ialK, iasK, aalK, aasK, alnK, zgt_u, zgt_a, Option.toList_some, Option.toList_none, List.cons_append, List.nil_append, List.map_cons, List.map_nil, List.replicate, ite_true, ite_false, if_true, if_false, List.getElem?_cons_zero, List.getElem?_cons_succ, List.set_cons_zero, List.set_cons_succ, true_and, and_true, beq_self_eq_true, zite, Int.toNat_natCast, if_pos, if_neg, zwr_id, zand, m0, s_isIn, zb_eq, zb_ne, h1, and_self, not_true, s_lettersOf6]
      exact hQ h hM fr_rf
    · rw [if_neg h3] at hQ
      have := nd_lt5 h3
      have e : 10 * z.p = z.p * 10 := by omega
      simp (disch := omega) only [e_97, w_97_0, w_97_1, w_97_2, w_97_3, w_97_4, w_97_5, w_97_6, w_97_7, w_97_8, w_97_9, w_97_10, w_97_11, w_97_12, w_97_13, w_97_14, w_97_15, w_97_16, w_97_17, w_97_18, w_97_19, w_97_20, w_97_21, w_97_22, w_97_23, w_97_24, w_97_25, w_97_26, w_97_27, getK, putK, ialK, iasK, aalK, aasK, alnK, zgt_u, zgt_a, Option.toList_some, Option.toList_none, List.cons_append, List.nil_append, List.map_cons, List.map_nil, List.replicate, ite_true, ite_false, if_true, if_false, List.getElem?_cons_zero, List.getElem?_cons_succ, List.set_cons_zero, List.set_cons_succ, true_and, and_true, beq_self_eq_true, zite, Int.toNat_natCast, if_pos, if_neg, zwr_id, zand, m0, s_isIn, zb_eq, zb_ne, h1, and_self, not_true, s_lettersOf6, e]
      exact hQ _ (rM_p hM) (fr_u fr_rf (by omega) (by omega))
  · rw [if_neg h1] at hQ
    simp (disch := omega) only [e_97, w_97_0, w_97_1, w_97_2, w_97_3, w_97_4, w_97_5, w_97_6, w_97_7, w_97_8, w_97_9, w_97_10, w_97_11, w_97_12, w_97_13, w_97_14, w_97_15, w_97_16, w_97_17, w_97_18, w_97_19, w_97_20, w_97_21, w_97_22, w_97_23, w_97_24, w_97_25, w_97_26, w_97_27, getK, putK, ialK, iasK, aalK, aasK, alnK, zgt_u, zgt_a, Option.toList_some, Option.toList_none, List.cons_append, List.nil_append, List.map_cons, List.map_nil, List.replicate, ite_true, ite_false, if_true, if_false, List.getElem?_cons_zero, List.getElem?_cons_succ, List.set_cons_zero, List.set_cons_succ, true_and, and_true, beq_self_eq_true, zite, Int.toNat_natCast, if_pos, if_neg, zwr_id, zand, m0, s_isIn, zb_eq, zb_ne, h1, not_false_eq_true]
    exact hQ h hM fr_rf
theorem s6_wipe (hM : rM h z) (hz : okZ z) (hQ : ∀ h', rM h' (wiS z).2 → fr h h' 24 8 → Q (some (.inl (wiS z).1)) h') : zca sc 98 [.inr (.inl (some 24))] h Q := by
  have hp := okZ_p hz
  have m0 := hM.1
  simp (disch := omega) only [e_98, w_98_0, w_98_1, w_98_2, w_98_3, w_98_4, w_98_5, w_98_6, w_98_7, w_98_8, getK, putK, ialK, iasK, aalK, aasK, alnK, zgt_u, zgt_a, Option.toList_some, Option.toList_none, List.cons_append, List.nil_append, List.map_cons, List.map_nil, List.replicate, ite_true, ite_false, if_true, if_false, List.getElem?_cons_zero, List.getElem?_cons_succ, List.set_cons_zero, List.set_cons_succ, true_and, and_true, beq_self_eq_true, zite, Int.toNat_natCast, if_pos, if_neg, zwr_id, zand, m0, s_lettersOf6]
  exact hQ _ (rM_p hM) (fr_u fr_rf (by omega) (by omega))
theorem s6_spell {x : Int} (hM : rM h z) (hQ : ∀ h', rM h' (spS z x).2 → fr h h' 24 8 → Q (some (.inl (spS z x).1)) h') : zca sc 99 [.inr (.inl (some 24)), .inl x] h Q := by
  have m0 := hM.1
  unfold spS at hQ
  by_cases h1 : wd x
  · rw [if_pos h1] at hQ
    have h1' := h1
    unfold wd at h1'
    obtain ⟨a1, a2, -⟩ := h1'
    simp (disch := omega) only [e_99, w_99_0, w_99_1, w_99_2, w_99_3, w_99_4, w_99_5, w_99_6, w_99_7, w_99_8, w_99_9, w_99_10, getK, putK, ialK, iasK, aalK, aasK, alnK, zgt_u, zgt_a, Option.toList_some, Option.toList_none, List.cons_append, List.nil_append, List.map_cons, List.map_nil, List.replicate, ite_true, ite_false, if_true, if_false, List.getElem?_cons_zero, List.getElem?_cons_succ, List.set_cons_zero, List.set_cons_succ, true_and, and_true, beq_self_eq_true, zite, Int.toNat_natCast, if_pos, if_neg, zwr_id, zand, m0, s_isWord6, zb_eq, zb_ne, h1, not_true, s_lettersOf6]
    exact hQ _ (rM_p hM) (fr_u fr_rf (by omega) (by omega))
  · rw [if_neg h1] at hQ
    simp (disch := omega) only [e_99, w_99_0, w_99_1, w_99_2, w_99_3, w_99_4, w_99_5, w_99_6, w_99_7, w_99_8, w_99_9, w_99_10, getK, putK, ialK, iasK, aalK, aasK, alnK, zgt_u, zgt_a, Option.toList_some, Option.toList_none, List.cons_append, List.nil_append, List.map_cons, List.map_nil, List.replicate, ite_true, ite_false, if_true, if_false, List.getElem?_cons_zero, List.getElem?_cons_succ, List.set_cons_zero, List.set_cons_succ, true_and, and_true, beq_self_eq_true, zite, Int.toNat_natCast, if_pos, if_neg, zwr_id, zand, m0, s_isWord6, zb_eq, zb_ne, h1, not_false_eq_true]
    exact hQ h hM fr_rf
theorem s6_clear (hM : rM h z) (hQ : ∀ h', rM h' (clS z).2 → fr h h' 24 8 → Q (some (.inl (clS z).1)) h') : zca sc 101 [.inr (.inl (some 24))] h Q := by
  have m0 := hM.1
  simp (disch := omega) only [e_101, w_101_0, w_101_1, w_101_2, w_101_3, w_101_4, w_101_5, w_101_6, w_101_7, getK, putK, ialK, iasK, aalK, aasK, alnK, zgt_u, zgt_a, Option.toList_some, Option.toList_none, List.cons_append, List.nil_append, List.map_cons, List.map_nil, List.replicate, ite_true, ite_false, if_true, if_false, List.getElem?_cons_zero, List.getElem?_cons_succ, List.set_cons_zero, List.set_cons_succ, true_and, and_true, beq_self_eq_true, zite, Int.toNat_natCast, if_pos, if_neg, zwr_id, zand, m0]
  exact hQ _ (rM_n hM) (fr_u fr_rf (by omega) (by omega))
end
