/-! THE CLASS CHANGED -/
theorem rC_S {h h' : zH} {z : zS} {c : Nat} {S : zDt} (hC : rC h z c) (hD : rDt h' 5 S) (hf : fr h h' 5 13) : rC h' (z.uS S z.H) c := by
  obtain ⟨c0, c1, c2, c3, ⟨rd, c4, c5, c6⟩, c7⟩ := hC
  exact ⟨(hf.2.2 0 (by omega)).trans c0, rTx_eq c1 (fun k a b => hf.2.2 k (by omega)), hD, rK_e0 c3 hf.1 (fun k a => hf.2.2 k (by omega)), ⟨rd, rNw_eq c4 (fun k a b => hf.2.2 k (by omega)), c5, c6⟩, by rw [hf.2.1]; omega⟩
/-- the states recorded -/
def psh (S : zDt) (H : List zDt) : List zDt := (S :: H).take 8
theorem psh_at {S : zDt} {H : List zDt} {j : Nat} (hj : j < (psh S H).length) : j < 8 ∧ (psh S H)[j]? = (S :: H)[j]? ∧ j < H.length + 1 := by
  unfold psh at *
  rw [List.length_take, List.length_cons] at hj
  exact ⟨by omega, by rw [List.getElem?_take, if_pos (by omega)], by omega⟩
theorem psh_len {S : zDt} {H : List zDt} (h : H.length ≤ 8) : ((psh S H).length : Int) = if 8 < (H.length : Int) + 1 then 8 else (H.length : Int) + 1 := by
  unfold psh
  rw [List.length_take, List.length_cons]
  split <;> omega
theorem psh_mem {S D : zDt} {H : List zDt} (h : D ∈ psh S H) : D = S ∨ D ∈ H := List.mem_cons.mp (List.mem_of_mem_take h)
section
variable {sc : Nat × (Int → Int)} {h : zH} {Q : Option zV → zH → Prop} {z : zS} {c : Nat}
theorem s5_rec (hC : rC h z c) (hz : okZ z) (hQ : ∀ h', rC h' (z.uS z.S (psh z.S z.H)) (c + 1) → frC h h' → zgt h' 20 = zgt h 20 → Q none h') : zca sc 12 [.inr (.inl (some 18)), .inr (.inl (some 5))] h Q := by
  obtain ⟨c0, c1, c2, ⟨a, nx, o, D, q0, q1, q2, q3, q4, q5, q6, q7⟩, ⟨rd, c4, c5, c6⟩, c7⟩ := hC
  refine s_record (by omega) (by omega) (by omega) (by omega) (by omega) q0 ⟨q1, q2⟩ ⟨by omega, by omega⟩ c2 hz.1 (fun h' a' o' D' j e1 e2 e3 e4 e5 e6 e7 e8 e9 => ?_)
  have hf : ∀ k, k < 32 → k ≠ 18 → k ≠ 19 → zgt h' k = zgt h k := e7
  have k1 : h'.2.1 ≤ 20000 + 449 * (c + 1) := Nat.le_trans e8 (by rw [Nat.mul_add, Nat.mul_one, ← Nat.add_assoc]; exact Nat.add_le_add_right c7 449)
  refine hQ h' ⟨(hf 0 (by omega) (by omega) (by omega)).trans c0, rTx_eq c1 (fun k u v => hf k (by omega) (by omega) (by omega)), e2, ⟨a', if nx + 1 < 8 then nx + 1 else 0, o', D', ?_, by split <;> omega, by split <;> omega, ?_, fun i hi => ?_, ?_, ?_, by omega⟩, ⟨rd, rNw_eq c4 (fun k u v => hf k (by omega) (by omega) (by omega)), c5, by omega⟩, k1⟩ (fun k u v => hf k (by omega) (by omega) (by omega)) (hf 20 (by omega) (by omega) (by omega))
  · show rSt _ _ _ _ _ _ ((psh z.S z.H).length : Int) _ _
    rw [psh_len q3]
    exact e1
  · show (psh z.S z.H).length ≤ 8
    unfold psh
    rw [List.length_take]
    omega
  · obtain ⟨b1, b2, b3⟩ := psh_at hi
    cases i with
    | zero =>
      refine ⟨j, ?_, by rw [b2, e4]; rfl⟩
      rw [show ((if nx + 1 < 8 then nx + 1 else 0) - 1 - ((0 : Nat) : Int)) % 8 = nx by split <;> omega]
      exact e3
    | succ i =>
      obtain ⟨k, k1, k2⟩ := q4 i (by omega)
      have hne : (nx - 1 - (i : Int)) % 8 ≠ nx := by omega
      refine ⟨k, ?_, by rw [b2, e6 _ k hne k1]; simpa using k2⟩
      rw [show ((if nx + 1 < 8 then nx + 1 else 0) - 1 - ((i + 1 : Nat) : Int)) % 8 = (nx - 1 - (i : Int)) % 8 by split <;> omega, e5 _ hne]
      exact k1
  · rw [e5 8 (by omega)]
    show z.I0 = _
    rw [q5]
    cases ho : o 8 with
    | none => rfl
    | some k => simp only [Option.map_some]; rw [e6 8 k (by omega) ho]
  · rw [e5 9 (by omega)]
    show z.I1 = _
    rw [q6]
    cases ho : o 9 with
    | none => rfl
    | some k => simp only [Option.map_some]; rw [e6 9 k (by omega) ho]
theorem ix_some {L : List zI} (hs : srtL L) (c : Int) : (ixf c 0 L = -1 ∧ ∀ y ∈ L, y.2.1 ≠ c) ∨ ∃ (j : Nat) (x : zI), L[j]? = some x ∧ ixf c 0 L = j ∧ gI L j = x ∧ x.2.1 = c ∧ x ∈ L ∧ j < L.length := by
  cases hf : fn c L with
  | none => exact Or.inl ⟨ixf_none (fn_none.mp hf), fn_none.mp hf⟩
  | some x =>
    obtain ⟨j, j1, j2⟩ := ixf_fn (k := 0) hs hf
    exact Or.inr ⟨j, x, j1, by rw [j2, Int.zero_add], gI_at j1, (fn_some hf).2, (fn_some hf).1, (List.getElem?_eq_some_iff.mp j1).1⟩
/-! the answers -/
def inS (z : zS) (w : Int) : Int × zS := if -99 ≤ w ∧ w ≤ 99 then (if z.p = 0 ∨ 0 ≤ ixf z.p 0 z.S.1 then (-2, z) else if 24 ≤ z.S.1.length then (-3, z) else (lgM z.S.2.1, z.uS (entS z.S z.p w) (psh z.S z.H))) else (-1, z)
def dpS (z : zS) : zDt := droS z.S (ixf z.p 0 z.S.1).toNat (gI z.S.1 (ixf z.p 0 z.S.1))
def rmS (z : zS) : Int × zS := if ixf z.p 0 z.S.1 < 0 then (-2, z) else (droR z.S (ixf z.p 0 z.S.1).toNat, z.uS (dpS z) (psh z.S z.H))
def weS (z : zS) (w : Int) : Int × zS := if -99 ≤ w ∧ w ≤ 99 then (if ixf z.p 0 z.S.1 < 0 then (-2, z) else (100 + (gI z.S.1 (ixf z.p 0 z.S.1)).2.2, z.uS (entS (dpS z) z.p w) (psh z.S z.H))) else (-1, z)
def rbS (z : zS) : Int × zS := (lti (lgf z.S.1.length) (z.S.1.map (fun x => (lgf z.S.1.length, x.2))), z.uS (renS z.S) (psh z.S z.H))
def unS (z : zS) : Int × zS := match z.H with
  | [] => (-2, z)
  | D :: H => ((H.length : Int), z.uS D H)
theorem droS_1 {S : zDt} {k : Nat} {x : zI} : (droS S k x).1 = S.1.eraseIdx k := by
  unfold droS
  split <;> rfl
theorem ers_ne {L : List zI} (hs : srtL L) {k : Nat} {x : zI} (hx : L[k]? = some x) : ∀ y ∈ L.eraseIdx k, y.2.1 ≠ x.2.1 := by
  intro y hy
  rw [List.mem_eraseIdx_iff_getElem?] at hy
  obtain ⟨i, hi, hy⟩ := hy
  obtain ⟨a1, a2⟩ := List.getElem?_eq_some_iff.mp hx
  obtain ⟨b1, b2⟩ := List.getElem?_eq_some_iff.mp hy
  have := List.pairwise_iff_getElem.mp hs.2
  rcases Nat.lt_or_gt_of_ne hi with q | q
  · have := this i k b1 a1 q
    rw [a2, b2] at this
    omega
  · have := this k i a1 b1 q
    rw [a2, b2] at this
    omega
theorem s5_insert {w : Int} (hC : rC h z c) (hz : okZ z) (hQ : ∀ h', rC h' (inS z w).2 (c + 1) → frC h h' → Q (some (.inl (inS z w).1)) h') : zca sc 68 [.inr (.inl (some 0)), .inl w] h Q := by
  have hp := okZ_p hz
  have c0 := hC.1
  have c2 := hC.2.2.1
  have hok := hz.1
  have h24 := hok.2.2.2.2.1
  unfold inS at hQ
  by_cases h1 : -99 ≤ w ∧ w ≤ 99
  · rw [if_pos h1] at hQ
    by_cases h2 : z.p = 0
    · rw [if_pos (Or.inl h2)] at hQ
      simp (disch := omega) only [e_68, w_68_0, w_68_1, w_68_2, w_68_3, w_68_4, w_68_5, w_68_6, w_68_7, w_68_8, w_68_9, w_68_10, w_68_11, w_68_12, w_68_13, w_68_14, w_68_15, w_68_16, w_68_17, w_68_18, w_68_19, w_68_20, w_68_21, w_68_22, w_68_23, w_68_24, w_68_25, w_68_26, w_68_27, w_68_28, w_68_29, w_68_30, w_68_31, w_68_32, w_68_33, w_68_34, w_68_35, w_68_36, getK, putK, ialK, iasK, aalK, aasK, alnK, zgt_u, zgt_a, Option.toList_some, Option.toList_none, List.cons_append, List.nil_append, List.map_cons, List.map_nil, List.replicate, ite_true, ite_false, if_true, if_false, List.getElem?_cons_zero, List.getElem?_cons_succ, List.set_cons_zero, List.set_cons_succ, true_and, and_true, beq_self_eq_true, zite, Int.toNat_natCast, if_pos, if_neg, zwr_id, zand, c0, s_isWeight5, zb_eq, zb_ne, h1, not_true]
      exact hQ h (rC_c hC) frC_rf
    · have hw : wd z.p := by rcases hz.2.2.2.2.2.1 with q | q; exact absurd q h2; exact q
      by_cases h3 : 0 ≤ ixf z.p 0 z.S.1
      · rw [if_pos (Or.inr h3)] at hQ
        simp (disch := omega) only [e_68, w_68_0, w_68_1, w_68_2, w_68_3, w_68_4, w_68_5, w_68_6, w_68_7, w_68_8, w_68_9, w_68_10, w_68_11, w_68_12, w_68_13, w_68_14, w_68_15, w_68_16, w_68_17, w_68_18, w_68_19, w_68_20, w_68_21, w_68_22, w_68_23, w_68_24, w_68_25, w_68_26, w_68_27, w_68_28, w_68_29, w_68_30, w_68_31, w_68_32, w_68_33, w_68_34, w_68_35, w_68_36, getK, putK, ialK, iasK, aalK, aasK, alnK, zgt_u, zgt_a, Option.toList_some, Option.toList_none, List.cons_append, List.nil_append, List.map_cons, List.map_nil, List.replicate, ite_true, ite_false, if_true, if_false, List.getElem?_cons_zero, List.getElem?_cons_succ, List.set_cons_zero, List.set_cons_succ, true_and, and_true, beq_self_eq_true, zite, Int.toNat_natCast, if_pos, if_neg, zwr_id, zand, c0, s_isWeight5, zb_eq, zb_ne, h1, not_true, rDt_rc c2, s_live c2, rIt_rc c2.2.1, s_indexOf c2.2.1]
        exact hQ h (rC_c hC) frC_rf
      · rw [if_neg (by omega)] at hQ
        have hn : ∀ y ∈ z.S.1, y.2.1 ≠ z.p := by
          rcases ix_some hok.2.2.2.1 z.p with q | ⟨j, x, -, q, -⟩
          · exact q.2
          · omega
        by_cases h4 : 24 ≤ z.S.1.length
        · rw [if_pos h4] at hQ
          simp (disch := omega) only [e_68, w_68_0, w_68_1, w_68_2, w_68_3, w_68_4, w_68_5, w_68_6, w_68_7, w_68_8, w_68_9, w_68_10, w_68_11, w_68_12, w_68_13, w_68_14, w_68_15, w_68_16, w_68_17, w_68_18, w_68_19, w_68_20, w_68_21, w_68_22, w_68_23, w_68_24, w_68_25, w_68_26, w_68_27, w_68_28, w_68_29, w_68_30, w_68_31, w_68_32, w_68_33, w_68_34, w_68_35, w_68_36, getK, putK, ialK, iasK, aalK, aasK, alnK, zgt_u, zgt_a, Option.toList_some, Option.toList_none, List.cons_append, List.nil_append, List.map_cons, List.map_nil, List.replicate, ite_true, ite_false, if_true, if_false, List.getElem?_cons_zero, List.getElem?_cons_succ, List.set_cons_zero, List.set_cons_succ, true_and, and_true, beq_self_eq_true, zite, Int.toNat_natCast, if_pos, if_neg, zwr_id, zand, c0, s_isWeight5, zb_eq, zb_ne, h1, not_true, rDt_rc c2, s_live c2, rIt_rc c2.2.1, s_indexOf c2.2.1, s_size2 c2.2.1]
          exact hQ h (rC_c hC) frC_rf
        · rw [if_neg h4] at hQ
          have hrc : ∀ as, zrecv h 1 (.inr (.inl (some 18)) :: as) = true := by
            obtain ⟨a, nx, o, D, ⟨-, ⟨g, ⟨g1, -⟩, -⟩, -⟩, -⟩ := hC.2.2.2.1
            exact fun as => zrc g1
          simp (disch := omega) only [e_68, w_68_0, w_68_1, w_68_2, w_68_3, w_68_4, w_68_5, w_68_6, w_68_7, w_68_8, w_68_9, w_68_10, w_68_11, w_68_12, w_68_13, w_68_14, w_68_15, w_68_16, w_68_17, w_68_18, w_68_19, w_68_20, w_68_21, w_68_22, w_68_23, w_68_24, w_68_25, w_68_26, w_68_27, w_68_28, w_68_29, w_68_30, w_68_31, w_68_32, w_68_33, w_68_34, w_68_35, w_68_36, getK, putK, ialK, iasK, aalK, aasK, alnK, zgt_u, zgt_a, Option.toList_some, Option.toList_none, List.cons_append, List.nil_append, List.map_cons, List.map_nil, List.replicate, ite_true, ite_false, if_true, if_false, List.getElem?_cons_zero, List.getElem?_cons_succ, List.set_cons_zero, List.set_cons_succ, true_and, and_true, beq_self_eq_true, zite, Int.toNat_natCast, if_pos, if_neg, zwr_id, zand, c0, s_isWeight5, zb_eq, zb_ne, h1, not_true, rDt_rc c2, s_live c2, rIt_rc c2.2.1, s_indexOf c2.2.1, s_size2 c2.2.1, hrc]
          refine s5_rec hC hz (fun h1' a1 a2 _ => ?_)
          have d0 := a1.1
          have d2 := a1.2.2.1
          simp (disch := omega) only [e_68, w_68_0, w_68_1, w_68_2, w_68_3, w_68_4, w_68_5, w_68_6, w_68_7, w_68_8, w_68_9, w_68_10, w_68_11, w_68_12, w_68_13, w_68_14, w_68_15, w_68_16, w_68_17, w_68_18, w_68_19, w_68_20, w_68_21, w_68_22, w_68_23, w_68_24, w_68_25, w_68_26, w_68_27, w_68_28, w_68_29, w_68_30, w_68_31, w_68_32, w_68_33, w_68_34, w_68_35, w_68_36, getK, putK, ialK, iasK, aalK, aasK, alnK, zgt_u, zgt_a, Option.toList_some, Option.toList_none, List.cons_append, List.nil_append, List.map_cons, List.map_nil, List.replicate, ite_true, ite_false, if_true, if_false, List.getElem?_cons_zero, List.getElem?_cons_succ, List.set_cons_zero, List.set_cons_succ, true_and, and_true, beq_self_eq_true, zite, Int.toNat_natCast, if_pos, if_neg, zwr_id, zand, d0, rDt_rc d2]
          refine s_enter d2 hok (by show z.S.1.length < 24; omega) hw h1 hn (fun h2' b1 b2 => ?_)
          simp (disch := omega) only [e_68, w_68_0, w_68_1, w_68_2, w_68_3, w_68_4, w_68_5, w_68_6, w_68_7, w_68_8, w_68_9, w_68_10, w_68_11, w_68_12, w_68_13, w_68_14, w_68_15, w_68_16, w_68_17, w_68_18, w_68_19, w_68_20, w_68_21, w_68_22, w_68_23, w_68_24, w_68_25, w_68_26, w_68_27, w_68_28, w_68_29, w_68_30, w_68_31, w_68_32, w_68_33, w_68_34, w_68_35, w_68_36, getK, putK, ialK, iasK, aalK, aasK, alnK, zgt_u, zgt_a, Option.toList_some, Option.toList_none, List.cons_append, List.nil_append, List.map_cons, List.map_nil, List.replicate, ite_true, ite_false, if_true, if_false, List.getElem?_cons_zero, List.getElem?_cons_succ, List.set_cons_zero, List.set_cons_succ, true_and, and_true, beq_self_eq_true, zite, Int.toNat_natCast, if_pos, if_neg, zwr_id, zand]
          exact hQ h2' (rC_S a1 b1 b2) (frC_tr a2 (frC_fr b2 (by omega)))
  · rw [if_neg h1] at hQ
    simp (disch := omega) only [e_68, w_68_0, w_68_1, w_68_2, w_68_3, w_68_4, w_68_5, w_68_6, w_68_7, w_68_8, w_68_9, w_68_10, w_68_11, w_68_12, w_68_13, w_68_14, w_68_15, w_68_16, w_68_17, w_68_18, w_68_19, w_68_20, w_68_21, w_68_22, w_68_23, w_68_24, w_68_25, w_68_26, w_68_27, w_68_28, w_68_29, w_68_30, w_68_31, w_68_32, w_68_33, w_68_34, w_68_35, w_68_36, getK, putK, ialK, iasK, aalK, aasK, alnK, zgt_u, zgt_a, Option.toList_some, Option.toList_none, List.cons_append, List.nil_append, List.map_cons, List.map_nil, List.replicate, ite_true, ite_false, if_true, if_false, List.getElem?_cons_zero, List.getElem?_cons_succ, List.set_cons_zero, List.set_cons_succ, true_and, and_true, beq_self_eq_true, zite, Int.toNat_natCast, if_pos, if_neg, zwr_id, zand, c0, s_isWeight5, zb_eq, zb_ne, h1, not_false_eq_true]
    exact hQ h (rC_c hC) frC_rf
theorem s5_remove (hC : rC h z c) (hz : okZ z) (hQ : ∀ h', rC h' (rmS z).2 (c + 1) → frC h h' → Q (some (.inl (rmS z).1)) h') : zca sc 69 [.inr (.inl (some 0))] h Q := by
  have hp := okZ_p hz
  have c0 := hC.1
  have c2 := hC.2.2.1
  have hok := hz.1
  have h24 := hok.2.2.2.2.1
  have hrc : ∀ as, zrecv h 1 (.inr (.inl (some 18)) :: as) = true := by
    obtain ⟨a, nx, o, D, ⟨-, ⟨g, ⟨g1, -⟩, -⟩, -⟩, -⟩ := hC.2.2.2.1
    exact fun as => zrc g1
  unfold rmS dpS at hQ
  rcases ix_some hok.2.2.2.1 z.p with q | ⟨j, x, x1, x2, x3, x4, x5, x6⟩
  · rw [if_pos (by omega)] at hQ
    simp (disch := omega) only [e_69, w_69_0, w_69_1, w_69_2, w_69_3, w_69_4, w_69_5, w_69_6, w_69_7, w_69_8, w_69_9, w_69_10, w_69_11, w_69_12, w_69_13, w_69_14, w_69_15, w_69_16, w_69_17, w_69_18, w_69_19, w_69_20, getK, putK, ialK, iasK, aalK, aasK, alnK, zgt_u, zgt_a, Option.toList_some, Option.toList_none, List.cons_append, List.nil_append, List.map_cons, List.map_nil, List.replicate, ite_true, ite_false, if_true, if_false, List.getElem?_cons_zero, List.getElem?_cons_succ, List.set_cons_zero, List.set_cons_succ, true_and, and_true, beq_self_eq_true, zite, Int.toNat_natCast, if_pos, if_neg, zwr_id, zand, c0, rDt_rc c2, s_live c2, rIt_rc c2.2.1, s_indexOf c2.2.1, q.1]
    exact hQ h (rC_c hC) frC_rf
  · rw [if_neg (by omega), x2, x3, Int.toNat_natCast] at hQ
    simp (disch := omega) only [e_69, w_69_0, w_69_1, w_69_2, w_69_3, w_69_4, w_69_5, w_69_6, w_69_7, w_69_8, w_69_9, w_69_10, w_69_11, w_69_12, w_69_13, w_69_14, w_69_15, w_69_16, w_69_17, w_69_18, w_69_19, w_69_20, getK, putK, ialK, iasK, aalK, aasK, alnK, zgt_u, zgt_a, Option.toList_some, Option.toList_none, List.cons_append, List.nil_append, List.map_cons, List.map_nil, List.replicate, ite_true, ite_false, if_true, if_false, List.getElem?_cons_zero, List.getElem?_cons_succ, List.set_cons_zero, List.set_cons_succ, true_and, and_true, beq_self_eq_true, zite, Int.toNat_natCast, if_pos, if_neg, zwr_id, zand, c0, rDt_rc c2, s_live c2, rIt_rc c2.2.1, s_indexOf c2.2.1, x2, hrc]
    refine s5_rec hC hz (fun h1' a1 a2 _ => ?_)
    have d0 := a1.1
    have d2 := a1.2.2.1
    simp (disch := omega) only [e_69, w_69_0, w_69_1, w_69_2, w_69_3, w_69_4, w_69_5, w_69_6, w_69_7, w_69_8, w_69_9, w_69_10, w_69_11, w_69_12, w_69_13, w_69_14, w_69_15, w_69_16, w_69_17, w_69_18, w_69_19, w_69_20, getK, putK, ialK, iasK, aalK, aasK, alnK, zgt_u, zgt_a, Option.toList_some, Option.toList_none, List.cons_append, List.nil_append, List.map_cons, List.map_nil, List.replicate, ite_true, ite_false, if_true, if_false, List.getElem?_cons_zero, List.getElem?_cons_succ, List.set_cons_zero, List.set_cons_succ, true_and, and_true, beq_self_eq_true, zite, Int.toNat_natCast, if_pos, if_neg, zwr_id, zand, d0, rDt_rc d2]
    refine s_drop d2 hok x1 (fun h2' b1 b2 => ?_)
    simp (disch := omega) only [e_69, w_69_0, w_69_1, w_69_2, w_69_3, w_69_4, w_69_5, w_69_6, w_69_7, w_69_8, w_69_9, w_69_10, w_69_11, w_69_12, w_69_13, w_69_14, w_69_15, w_69_16, w_69_17, w_69_18, w_69_19, w_69_20, getK, putK, ialK, iasK, aalK, aasK, alnK, zgt_u, zgt_a, Option.toList_some, Option.toList_none, List.cons_append, List.nil_append, List.map_cons, List.map_nil, List.replicate, ite_true, ite_false, if_true, if_false, List.getElem?_cons_zero, List.getElem?_cons_succ, List.set_cons_zero, List.set_cons_succ, true_and, and_true, beq_self_eq_true, zite, Int.toNat_natCast, if_pos, if_neg, zwr_id, zand]
    exact hQ h2' (rC_S a1 b1 b2) (frC_tr a2 (frC_fr b2 (by omega)))
theorem s5_weigh {w : Int} (hC : rC h z c) (hz : okZ z) (hQ : ∀ h', rC h' (weS z w).2 (c + 1) → frC h h' → Q (some (.inl (weS z w).1)) h') : zca sc 70 [.inr (.inl (some 0)), .inl w] h Q := by
  have hp := okZ_p hz
  have c0 := hC.1
  have c2 := hC.2.2.1
  have hok := hz.1
  have h24 := hok.2.2.2.2.1
  have hrc : ∀ as, zrecv h 1 (.inr (.inl (some 18)) :: as) = true := by
    obtain ⟨a, nx, o, D, ⟨-, ⟨g, ⟨g1, -⟩, -⟩, -⟩, -⟩ := hC.2.2.2.1
    exact fun as => zrc g1
  unfold weS dpS at hQ
  by_cases h1 : -99 ≤ w ∧ w ≤ 99
  · rw [if_pos h1] at hQ
    rcases ix_some hok.2.2.2.1 z.p with q | ⟨j, x, x1, x2, x3, x4, x5, x6⟩
    · rw [if_pos (by omega)] at hQ
      simp (disch := omega) only [e_70, w_70_0, w_70_1, w_70_2, w_70_3, w_70_4, w_70_5, w_70_6, w_70_7, w_70_8, w_70_9, w_70_10, w_70_11, w_70_12, w_70_13, w_70_14, w_70_15, w_70_16, w_70_17, w_70_18, w_70_19, w_70_20, w_70_21, w_70_22, w_70_23, w_70_24, w_70_25, w_70_26, w_70_27, w_70_28, w_70_29, w_70_30, w_70_31, w_70_32, w_70_33, w_70_34, w_70_35, w_70_36, w_70_37, w_70_38, w_70_39, w_70_40, w_70_41, w_70_42, getK, putK, ialK, iasK, aalK, aasK, alnK, zgt_u, zgt_a, Option.toList_some, Option.toList_none, List.cons_append, List.nil_append, List.map_cons, List.map_nil, List.replicate, ite_true, ite_false, if_true, if_false, List.getElem?_cons_zero, List.getElem?_cons_succ, List.set_cons_zero, List.set_cons_succ, true_and, and_true, beq_self_eq_true, zite, Int.toNat_natCast, if_pos, if_neg, zwr_id, zand, c0, s_isWeight5, zb_eq, zb_ne, h1, not_true, rDt_rc c2, s_live c2, rIt_rc c2.2.1, s_indexOf c2.2.1, q.1]
      exact hQ h (rC_c hC) frC_rf
    · rw [if_neg (by omega), x2, x3, Int.toNat_natCast] at hQ
      have hw : wd z.p := by rw [← x4]; exact (hok.1 x x5).2.2.1
      have hxw := (hok.1 x x5).2.2.2
      simp (disch := omega) only [e_70, w_70_0, w_70_1, w_70_2, w_70_3, w_70_4, w_70_5, w_70_6, w_70_7, w_70_8, w_70_9, w_70_10, w_70_11, w_70_12, w_70_13, w_70_14, w_70_15, w_70_16, w_70_17, w_70_18, w_70_19, w_70_20, w_70_21, w_70_22, w_70_23, w_70_24, w_70_25, w_70_26, w_70_27, w_70_28, w_70_29, w_70_30, w_70_31, w_70_32, w_70_33, w_70_34, w_70_35, w_70_36, w_70_37, w_70_38, w_70_39, w_70_40, w_70_41, w_70_42, getK, putK, ialK, iasK, aalK, aasK, alnK, zgt_u, zgt_a, Option.toList_some, Option.toList_none, List.cons_append, List.nil_append, List.map_cons, List.map_nil, List.replicate, ite_true, ite_false, if_true, if_false, List.getElem?_cons_zero, List.getElem?_cons_succ, List.set_cons_zero, List.set_cons_succ, true_and, and_true, beq_self_eq_true, zite, Int.toNat_natCast, if_pos, if_neg, zwr_id, zand, c0, s_isWeight5, zb_eq, zb_ne, h1, not_true, rDt_rc c2, s_live c2, rIt_rc c2.2.1, s_indexOf c2.2.1, x2, s_weightAt2 c2.2.1, x3, hrc]
      refine s5_rec hC hz (fun h1' a1 a2 _ => ?_)
      have d0 := a1.1
      have d2 := a1.2.2.1
      simp (disch := omega) only [e_70, w_70_0, w_70_1, w_70_2, w_70_3, w_70_4, w_70_5, w_70_6, w_70_7, w_70_8, w_70_9, w_70_10, w_70_11, w_70_12, w_70_13, w_70_14, w_70_15, w_70_16, w_70_17, w_70_18, w_70_19, w_70_20, w_70_21, w_70_22, w_70_23, w_70_24, w_70_25, w_70_26, w_70_27, w_70_28, w_70_29, w_70_30, w_70_31, w_70_32, w_70_33, w_70_34, w_70_35, w_70_36, w_70_37, w_70_38, w_70_39, w_70_40, w_70_41, w_70_42, getK, putK, ialK, iasK, aalK, aasK, alnK, zgt_u, zgt_a, Option.toList_some, Option.toList_none, List.cons_append, List.nil_append, List.map_cons, List.map_nil, List.replicate, ite_true, ite_false, if_true, if_false, List.getElem?_cons_zero, List.getElem?_cons_succ, List.set_cons_zero, List.set_cons_succ, true_and, and_true, beq_self_eq_true, zite, Int.toNat_natCast, if_pos, if_neg, zwr_id, zand, d0, rDt_rc d2]
      refine s_drop d2 hok x1 (fun h2' b1 b2 => ?_)
      have e1 := rC_S a1 b1 b2
      have e0 := e1.1
      simp (disch := omega) only [e_70, w_70_0, w_70_1, w_70_2, w_70_3, w_70_4, w_70_5, w_70_6, w_70_7, w_70_8, w_70_9, w_70_10, w_70_11, w_70_12, w_70_13, w_70_14, w_70_15, w_70_16, w_70_17, w_70_18, w_70_19, w_70_20, w_70_21, w_70_22, w_70_23, w_70_24, w_70_25, w_70_26, w_70_27, w_70_28, w_70_29, w_70_30, w_70_31, w_70_32, w_70_33, w_70_34, w_70_35, w_70_36, w_70_37, w_70_38, w_70_39, w_70_40, w_70_41, w_70_42, getK, putK, ialK, iasK, aalK, aasK, alnK, zgt_u, zgt_a, Option.toList_some, Option.toList_none, List.cons_append, List.nil_append, List.map_cons, List.map_nil, List.replicate, ite_true, ite_false, if_true, if_false, List.getElem?_cons_zero, List.getElem?_cons_succ, List.set_cons_zero, List.set_cons_succ, true_and, and_true, beq_self_eq_true, zite, Int.toNat_natCast, if_pos, if_neg, zwr_id, zand, e0, rDt_rc b1]
      have hlen := len_eraseIdx x6
      refine s_enter b1 (droS_ok hok x1) (by rw [droS_1]; show (z.S.1.eraseIdx j).length < 24; omega) hw h1 (fun y hy => ?_) (fun h3' f1 f2 => ?_)
      · rw [droS_1] at hy
        show y.2.1 ≠ z.p
        rw [← x4]
        exact ers_ne hok.2.2.2.1 x1 y hy
      · simp (disch := omega) only [e_70, w_70_0, w_70_1, w_70_2, w_70_3, w_70_4, w_70_5, w_70_6, w_70_7, w_70_8, w_70_9, w_70_10, w_70_11, w_70_12, w_70_13, w_70_14, w_70_15, w_70_16, w_70_17, w_70_18, w_70_19, w_70_20, w_70_21, w_70_22, w_70_23, w_70_24, w_70_25, w_70_26, w_70_27, w_70_28, w_70_29, w_70_30, w_70_31, w_70_32, w_70_33, w_70_34, w_70_35, w_70_36, w_70_37, w_70_38, w_70_39, w_70_40, w_70_41, w_70_42, getK, putK, ialK, iasK, aalK, aasK, alnK, zgt_u, zgt_a, Option.toList_some, Option.toList_none, List.cons_append, List.nil_append, List.map_cons, List.map_nil, List.replicate, ite_true, ite_false, if_true, if_false, List.getElem?_cons_zero, List.getElem?_cons_succ, List.set_cons_zero, List.set_cons_succ, true_and, and_true, beq_self_eq_true, zite, Int.toNat_natCast, if_pos, if_neg, zwr_id, zand]
        exact hQ h3' (rC_S e1 f1 f2) (frC_tr a2 (frC_tr (frC_fr b2 (by omega)) (frC_fr f2 (by omega))))
  · rw [if_neg h1] at hQ
    simp (disch := omega) only [e_70, w_70_0, w_70_1, w_70_2, w_70_3, w_70_4, w_70_5, w_70_6, w_70_7, w_70_8, w_70_9, w_70_10, w_70_11, w_70_12, w_70_13, w_70_14, w_70_15, w_70_16, w_70_17, w_70_18, w_70_19, w_70_20, w_70_21, w_70_22, w_70_23, w_70_24, w_70_25, w_70_26, w_70_27, w_70_28, w_70_29, w_70_30, w_70_31, w_70_32, w_70_33, w_70_34, w_70_35, w_70_36, w_70_37, w_70_38, w_70_39, w_70_40, w_70_41, w_70_42, getK, putK, ialK, iasK, aalK, aasK, alnK, zgt_u, zgt_a, Option.toList_some, Option.toList_none, List.cons_append, List.nil_append, List.map_cons, List.map_nil, List.replicate, ite_true, ite_false, if_true, if_false, List.getElem?_cons_zero, List.getElem?_cons_succ, List.set_cons_zero, List.set_cons_succ, true_and, and_true, beq_self_eq_true, zite, Int.toNat_natCast, if_pos, if_neg, zwr_id, zand, c0, s_isWeight5, zb_eq, zb_ne, h1, not_false_eq_true]
    exact hQ h (rC_c hC) frC_rf
theorem s5_rebuild (hC : rC h z c) (hz : okZ z) (hQ : ∀ h', rC h' (rbS z).2 (c + 1) → frC h h' → Q (some (.inl (rbS z).1)) h') : zca sc 71 [.inr (.inl (some 0))] h Q := by
  have c0 := hC.1
  have c2 := hC.2.2.1
  have hok := hz.1
  have hrc : ∀ as, zrecv h 1 (.inr (.inl (some 18)) :: as) = true := by
    obtain ⟨a, nx, o, D, ⟨-, ⟨g, ⟨g1, -⟩, -⟩, -⟩, -⟩ := hC.2.2.2.1
    exact fun as => zrc g1
  simp (disch := omega) only [e_71, w_71_0, w_71_1, w_71_2, w_71_3, w_71_4, w_71_5, w_71_6, w_71_7, w_71_8, getK, putK, ialK, iasK, aalK, aasK, alnK, zgt_u, zgt_a, Option.toList_some, Option.toList_none, List.cons_append, List.nil_append, List.map_cons, List.map_nil, List.replicate, ite_true, ite_false, if_true, if_false, List.getElem?_cons_zero, List.getElem?_cons_succ, List.set_cons_zero, List.set_cons_succ, true_and, and_true, beq_self_eq_true, zite, Int.toNat_natCast, if_pos, if_neg, zwr_id, zand, c0, hrc]
  refine s5_rec hC hz (fun h1' a1 a2 _ => ?_)
  have d0 := a1.1
  have d2 := a1.2.2.1
  simp (disch := omega) only [e_71, w_71_0, w_71_1, w_71_2, w_71_3, w_71_4, w_71_5, w_71_6, w_71_7, w_71_8, getK, putK, ialK, iasK, aalK, aasK, alnK, zgt_u, zgt_a, Option.toList_some, Option.toList_none, List.cons_append, List.nil_append, List.map_cons, List.map_nil, List.replicate, ite_true, ite_false, if_true, if_false, List.getElem?_cons_zero, List.getElem?_cons_succ, List.set_cons_zero, List.set_cons_succ, true_and, and_true, beq_self_eq_true, zite, Int.toNat_natCast, if_pos, if_neg, zwr_id, zand, d0, rDt_rc d2]
  obtain ⟨m0, m1, ⟨l2, m2, -⟩, ⟨l3, m3, -⟩⟩ := id d2
  refine s_renew m0 m1 m2 m3 hok.1 hok.2.2.2.2.1 (fun h2' b1 b2 => ?_)
  simp (disch := omega) only [e_71, w_71_0, w_71_1, w_71_2, w_71_3, w_71_4, w_71_5, w_71_6, w_71_7, w_71_8, getK, putK, ialK, iasK, aalK, aasK, alnK, zgt_u, zgt_a, Option.toList_some, Option.toList_none, List.cons_append, List.nil_append, List.map_cons, List.map_nil, List.replicate, ite_true, ite_false, if_true, if_false, List.getElem?_cons_zero, List.getElem?_cons_succ, List.set_cons_zero, List.set_cons_succ, true_and, and_true, beq_self_eq_true, zite, Int.toNat_natCast, if_pos, if_neg, zwr_id, zand]
  exact hQ h2' (rC_S a1 b1 b2) (frC_tr a2 (frC_fr b2 (by omega)))
end
