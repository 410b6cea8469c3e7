/-! THE MODEL MADE -/
theorem zup_0 : zup (fun _ : Int => (0 : Int)) 0 0 = fun _ => 0 := by
  funext j
  unfold zup
  split <;> rfl
theorem rW_0 : rW (fun _ => 0) zD0 := ⟨⟨rfl, fun k h0 h1 => by have : k < ((0 : Nat) : Int) := h1; omega⟩, ⟨rfl, fun k h0 h1 => by have : k < ((0 : Nat) : Int) := h1; omega⟩, ⟨rfl, fun k h0 h1 => by have : k < ((0 : Nat) : Int) := h1; omega⟩, rfl, rfl⟩
section
variable {sc : Nat × (Int → Int)} {h : zH} {Q : Option zV → zH → Prop}
theorem stg {hk : zH} {b N : Nat} {o : zC} (hb : hk.1 = b) (h24 : 24 < b) : zgt (zuH (zaH hk N (.inr (.inl (N, fun _ => 0)))) 24 o) 24 = o ∧ zgt (zuH (zaH hk N (.inr (.inl (N, fun _ => 0)))) 24 o) b = .inr (.inl (N, fun _ => 0)) ∧ (∀ j, j ≠ 24 → j < b → zgt (zuH (zaH hk N (.inr (.inl (N, fun _ => 0)))) 24 o) j = zgt hk j) ∧ (zuH (zaH hk N (.inr (.inl (N, fun _ => 0)))) 24 o).1 = b + 1 ∧ (zuH (zaH hk N (.inr (.inl (N, fun _ => 0)))) 24 o).2.1 = hk.2.1 + N := by
  refine ⟨by rw [zgt_u, if_pos rfl], by rw [zgt_u, if_neg (by omega), zgt_a, if_pos hb.symm], fun j h1 h2 => by rw [zgt_u, if_neg h1, zgt_a, if_neg (by omega)], by rw [zuH_1, zaH_1, hb], rfl⟩
theorem s6_init (h0 : zgt h 24 = .inl (6, [.inr (.inl none), .inr (.inl none), .inl 0, .inr (.inl none), .inl 0, .inl 0, .inr (.inl none), .inl 0, .inr (.inl none), .inr (.inl none), .inr (.inl none)])) (hb : h.1 = 25) (hQ : ∀ h', rM h' z0S → (∀ k, k < 24 → zgt h' k = zgt h k) → h'.1 = 32 → h'.2.1 = h.2.1 + 5389 → Q none h') : zca sc 90 [.inr (.inl (some 24))] h Q := by
  simp (disch := omega) only [e_90, w_90_0, w_90_1, w_90_2, w_90_3, w_90_4, w_90_5, getK, putK, ialK, iasK, aalK, aasK, alnK, zgt_u, zgt_a, Option.toList_some, Option.toList_none, List.cons_append, List.nil_append, List.map_cons, List.map_nil, List.replicate, ite_true, ite_false, if_true, if_false, List.getElem?_cons_zero, List.getElem?_cons_succ, List.set_cons_zero, List.set_cons_succ, true_and, and_true, beq_self_eq_true, zite, Int.toNat_natCast, if_pos, if_neg, zwr_id, zand, h0, hb, zaH_1, zuH_1, Int.reduceToNat, Nat.reduceEqDiff]
  obtain ⟨a0, b0, c0, d0, e0⟩ := stg (hk := h) (b := 25) (N := 437) (o := .inl (6, [.inr (.inl (some 25)), .inr (.inl none), .inl 0, .inr (.inl none), .inl 0, .inl 0, .inr (.inl none), .inl 0, .inr (.inl none), .inr (.inl none), .inr (.inl none)])) hb (by omega)
  generalize zuH (zaH h 437 (.inr (.inl (437, fun _ => 0)))) 24 (.inl (6, [.inr (.inl (some 25)), .inr (.inl none), .inl 0, .inr (.inl none), .inl 0, .inl 0, .inr (.inl none), .inl 0, .inr (.inl none), .inr (.inl none), .inr (.inl none)])) = k0 at a0 b0 c0 d0 e0 ⊢
  simp (disch := omega) only [e_90, w_90_6, w_90_7, w_90_8, w_90_9, getK, putK, ialK, iasK, aalK, aasK, alnK, zgt_u, zgt_a, Option.toList_some, Option.toList_none, List.cons_append, List.nil_append, List.map_cons, List.map_nil, List.replicate, ite_true, ite_false, if_true, if_false, List.getElem?_cons_zero, List.getElem?_cons_succ, List.set_cons_zero, List.set_cons_succ, true_and, and_true, beq_self_eq_true, zite, Int.toNat_natCast, if_pos, if_neg, zwr_id, zand, a0, d0, zaH_1, zuH_1, Int.reduceToNat, Nat.reduceEqDiff]
  obtain ⟨a1, b1, c1, d1, e1⟩ := stg (hk := k0) (b := 26) (N := 3496) (o := .inl (6, [.inr (.inl (some 25)), .inr (.inl (some 26)), .inl 0, .inr (.inl none), .inl 0, .inl 0, .inr (.inl none), .inl 0, .inr (.inl none), .inr (.inl none), .inr (.inl none)])) d0 (by omega)
  generalize zuH (zaH k0 3496 (.inr (.inl (3496, fun _ => 0)))) 24 (.inl (6, [.inr (.inl (some 25)), .inr (.inl (some 26)), .inl 0, .inr (.inl none), .inl 0, .inl 0, .inr (.inl none), .inl 0, .inr (.inl none), .inr (.inl none), .inr (.inl none)])) = k1 at a1 b1 c1 d1 e1 ⊢
  simp (disch := omega) only [e_90, w_90_10, w_90_11, w_90_12, w_90_13, getK, putK, ialK, iasK, aalK, aasK, alnK, zgt_u, zgt_a, Option.toList_some, Option.toList_none, List.cons_append, List.nil_append, List.map_cons, List.map_nil, List.replicate, ite_true, ite_false, if_true, if_false, List.getElem?_cons_zero, List.getElem?_cons_succ, List.set_cons_zero, List.set_cons_succ, true_and, and_true, beq_self_eq_true, zite, Int.toNat_natCast, if_pos, if_neg, zwr_id, zand, a1, d1, zaH_1, zuH_1, Int.reduceToNat, Nat.reduceEqDiff]
  obtain ⟨a2, b2, c2, d2, e2⟩ := stg (hk := k1) (b := 27) (N := 874) (o := .inl (6, [.inr (.inl (some 25)), .inr (.inl (some 26)), .inl 0, .inr (.inl (some 27)), .inl 0, .inl 0, .inr (.inl none), .inl 0, .inr (.inl none), .inr (.inl none), .inr (.inl none)])) d1 (by omega)
  generalize zuH (zaH k1 874 (.inr (.inl (874, fun _ => 0)))) 24 (.inl (6, [.inr (.inl (some 25)), .inr (.inl (some 26)), .inl 0, .inr (.inl (some 27)), .inl 0, .inl 0, .inr (.inl none), .inl 0, .inr (.inl none), .inr (.inl none), .inr (.inl none)])) = k2 at a2 b2 c2 d2 e2 ⊢
  simp (disch := omega) only [e_90, w_90_14, w_90_15, w_90_16, w_90_17, getK, putK, ialK, iasK, aalK, aasK, alnK, zgt_u, zgt_a, Option.toList_some, Option.toList_none, List.cons_append, List.nil_append, List.map_cons, List.map_nil, List.replicate, ite_true, ite_false, if_true, if_false, List.getElem?_cons_zero, List.getElem?_cons_succ, List.set_cons_zero, List.set_cons_succ, true_and, and_true, beq_self_eq_true, zite, Int.toNat_natCast, if_pos, if_neg, zwr_id, zand, a2, d2, zaH_1, zuH_1, Int.reduceToNat, Nat.reduceEqDiff]
  obtain ⟨a3, b3, c3, d3, e3⟩ := stg (hk := k2) (b := 28) (N := 60) (o := .inl (6, [.inr (.inl (some 25)), .inr (.inl (some 26)), .inl 0, .inr (.inl (some 27)), .inl 0, .inl 0, .inr (.inl (some 28)), .inl 0, .inr (.inl none), .inr (.inl none), .inr (.inl none)])) d2 (by omega)
  generalize zuH (zaH k2 60 (.inr (.inl (60, fun _ => 0)))) 24 (.inl (6, [.inr (.inl (some 25)), .inr (.inl (some 26)), .inl 0, .inr (.inl (some 27)), .inl 0, .inl 0, .inr (.inl (some 28)), .inl 0, .inr (.inl none), .inr (.inl none), .inr (.inl none)])) = k3 at a3 b3 c3 d3 e3 ⊢
  simp (disch := omega) only [e_90, w_90_18, w_90_19, w_90_20, w_90_21, getK, putK, ialK, iasK, aalK, aasK, alnK, zgt_u, zgt_a, Option.toList_some, Option.toList_none, List.cons_append, List.nil_append, List.map_cons, List.map_nil, List.replicate, ite_true, ite_false, if_true, if_false, List.getElem?_cons_zero, List.getElem?_cons_succ, List.set_cons_zero, List.set_cons_succ, true_and, and_true, beq_self_eq_true, zite, Int.toNat_natCast, if_pos, if_neg, zwr_id, zand, a3, d3, zaH_1, zuH_1, Int.reduceToNat, Nat.reduceEqDiff]
  obtain ⟨a4, b4, c4, d4, e4⟩ := stg (hk := k3) (b := 29) (N := 400) (o := .inl (6, [.inr (.inl (some 25)), .inr (.inl (some 26)), .inl 0, .inr (.inl (some 27)), .inl 0, .inl 0, .inr (.inl (some 28)), .inl 0, .inr (.inl (some 29)), .inr (.inl none), .inr (.inl none)])) d3 (by omega)
  generalize zuH (zaH k3 400 (.inr (.inl (400, fun _ => 0)))) 24 (.inl (6, [.inr (.inl (some 25)), .inr (.inl (some 26)), .inl 0, .inr (.inl (some 27)), .inl 0, .inl 0, .inr (.inl (some 28)), .inl 0, .inr (.inl (some 29)), .inr (.inl none), .inr (.inl none)])) = k4 at a4 b4 c4 d4 e4 ⊢
  simp (disch := omega) only [e_90, w_90_22, w_90_23, w_90_24, w_90_25, getK, putK, ialK, iasK, aalK, aasK, alnK, zgt_u, zgt_a, Option.toList_some, Option.toList_none, List.cons_append, List.nil_append, List.map_cons, List.map_nil, List.replicate, ite_true, ite_false, if_true, if_false, List.getElem?_cons_zero, List.getElem?_cons_succ, List.set_cons_zero, List.set_cons_succ, true_and, and_true, beq_self_eq_true, zite, Int.toNat_natCast, if_pos, if_neg, zwr_id, zand, a4, d4, zaH_1, zuH_1, Int.reduceToNat, Nat.reduceEqDiff]
  obtain ⟨a5, b5, c5, d5, e5⟩ := stg (hk := k4) (b := 30) (N := 61) (o := .inl (6, [.inr (.inl (some 25)), .inr (.inl (some 26)), .inl 0, .inr (.inl (some 27)), .inl 0, .inl 0, .inr (.inl (some 28)), .inl 0, .inr (.inl (some 29)), .inr (.inl (some 30)), .inr (.inl none)])) d4 (by omega)
  generalize zuH (zaH k4 61 (.inr (.inl (61, fun _ => 0)))) 24 (.inl (6, [.inr (.inl (some 25)), .inr (.inl (some 26)), .inl 0, .inr (.inl (some 27)), .inl 0, .inl 0, .inr (.inl (some 28)), .inl 0, .inr (.inl (some 29)), .inr (.inl (some 30)), .inr (.inl none)])) = k5 at a5 b5 c5 d5 e5 ⊢
  simp (disch := omega) only [e_90, w_90_26, w_90_27, w_90_28, w_90_29, getK, putK, ialK, iasK, aalK, aasK, alnK, zgt_u, zgt_a, Option.toList_some, Option.toList_none, List.cons_append, List.nil_append, List.map_cons, List.map_nil, List.replicate, ite_true, ite_false, if_true, if_false, List.getElem?_cons_zero, List.getElem?_cons_succ, List.set_cons_zero, List.set_cons_succ, true_and, and_true, beq_self_eq_true, zite, Int.toNat_natCast, if_pos, if_neg, zwr_id, zand, a5, d5, zaH_1, zuH_1, Int.reduceToNat, Nat.reduceEqDiff]
  obtain ⟨a6, b6, c6, d6, e6⟩ := stg (hk := k5) (b := 31) (N := 61) (o := .inl (6, [.inr (.inl (some 25)), .inr (.inl (some 26)), .inl 0, .inr (.inl (some 27)), .inl 0, .inl 0, .inr (.inl (some 28)), .inl 0, .inr (.inl (some 29)), .inr (.inl (some 30)), .inr (.inl (some 31))])) d5 (by omega)
  generalize zuH (zaH k5 61 (.inr (.inl (61, fun _ => 0)))) 24 (.inl (6, [.inr (.inl (some 25)), .inr (.inl (some 26)), .inl 0, .inr (.inl (some 27)), .inl 0, .inl 0, .inr (.inl (some 28)), .inl 0, .inr (.inl (some 29)), .inr (.inl (some 30)), .inr (.inl (some 31))])) = k6 at a6 b6 c6 d6 e6 ⊢
  have x25 : zgt k6 25 = .inr (.inl (437, fun _ => 0)) := by rw [c6 25 (by omega) (by omega), c5 25 (by omega) (by omega), c4 25 (by omega) (by omega), c3 25 (by omega) (by omega), c2 25 (by omega) (by omega), c1 25 (by omega) (by omega)]; exact b0
  have x26 : zgt k6 26 = .inr (.inl (3496, fun _ => 0)) := by rw [c6 26 (by omega) (by omega), c5 26 (by omega) (by omega), c4 26 (by omega) (by omega), c3 26 (by omega) (by omega), c2 26 (by omega) (by omega)]; exact b1
  have x27 : zgt k6 27 = .inr (.inl (874, fun _ => 0)) := by rw [c6 27 (by omega) (by omega), c5 27 (by omega) (by omega), c4 27 (by omega) (by omega), c3 27 (by omega) (by omega)]; exact b2
  have x28 : zgt k6 28 = .inr (.inl (60, fun _ => 0)) := by rw [c6 28 (by omega) (by omega), c5 28 (by omega) (by omega), c4 28 (by omega) (by omega)]; exact b3
  have x29 : zgt k6 29 = .inr (.inl (400, fun _ => 0)) := by rw [c6 29 (by omega) (by omega), c5 29 (by omega) (by omega)]; exact b4
  have x30 : zgt k6 30 = .inr (.inl (61, fun _ => 0)) := by rw [c6 30 (by omega) (by omega)]; exact b5
  have xx : ∀ k, k < 24 → zgt k6 k = zgt h k := fun k hk => by rw [c6 k (by omega) (by omega), c5 k (by omega) (by omega), c4 k (by omega) (by omega), c3 k (by omega) (by omega), c2 k (by omega) (by omega), c1 k (by omega) (by omega), c0 k (by omega) (by omega)]
  simp (disch := omega) only [e_90, w_90_30, w_90_31, w_90_32, w_90_33, w_90_34, w_90_35, getK, putK, ialK, iasK, aalK, aasK, alnK, zgt_u, zgt_a, Option.toList_some, Option.toList_none, List.cons_append, List.nil_append, List.map_cons, List.map_nil, List.replicate, ite_true, ite_false, if_true, if_false, List.getElem?_cons_zero, List.getElem?_cons_succ, List.set_cons_zero, List.set_cons_succ, true_and, and_true, beq_self_eq_true, zite, Int.toNat_natCast, if_pos, if_neg, zwr_id, zand, a6, x25]
  refine hQ _ ⟨?_, ⟨fun _ => 0, ?_, rW_0⟩, ⟨fun _ => 0, ?_, fun j hj => absurd hj (by show ¬ j < 0; omega)⟩, ⟨fun _ => 0, ?_, fun D hD => (by cases hD), fun D hD => (by cases hD)⟩, ?_, ⟨fun _ => 0, ?_⟩, ⟨fun _ => 0, ?_⟩, fun _ => 0, ?_⟩ (fun k hk => ?_) ?_ ?_
  · rw [zgt_u, if_neg (by omega)]; exact a6
  · rw [zgt_u, if_pos rfl, zup_0]
  · rw [zgt_u, if_neg (by omega)]; exact x26
  · rw [zgt_u, if_neg (by omega)]; exact x27
  · rw [zgt_u, if_neg (by omega)]; exact x28
  · rw [zgt_u, if_neg (by omega)]; exact x29
  · rw [zgt_u, if_neg (by omega)]; exact x30
  · rw [zgt_u, if_neg (by omega)]; exact b6
  · rw [zgt_u, if_neg (by omega)]; exact xx k hk
  · rw [zuH_1]; exact d6
  · rw [zuH_2, e6, e5, e4, e3, e2, e1, e0]
end
/-! A NUMBER IS ITS OWN EQUAL -/
theorem dec64 {n : Nat} (h : n % 9223372036854775808 ≤ 9218868437227405312) : FP.Core.decode FP.Core.b64 n ≠ .nan := by
  have e1 : FP.Core.b64.tails = 4503599627370496 := by decide
  have e2 : FP.Core.b64.exps = 2048 := by decide
  unfold FP.Core.decode FP.Core.fieldE FP.Core.fieldT
  rw [e1, e2]
  split
  · split
    · intro q; cases q
    · omega
  · split <;> (intro q; cases q)
theorem n64_to {x : UInt64} (h : n64 x = true) : x.toNat % 9223372036854775808 ≤ 9218868437227405312 := by
  unfold n64 at h
  rw [decide_eq_true_eq, UInt64.le_iff_toNat_le, UInt64.toNat_and] at h
  have h : x.toNat &&& (2 ^ 63 - 1) ≤ 9218868437227405312 := h
  rw [Nat.and_two_pow_sub_one_eq_mod] at h
  exact h
theorem cmp_i (a : Int) : compare a a = .eq := by
  unfold compare
  simp [instOrdInt, compareOfLessAndEq]
theorem ord_s : ∀ d, d ≠ .nan → FP.Core.order d d = some .eq
  | .nan, h => absurd rfl h
  | .inf s, _ => congrArg some (cmp_i _)
  | .fin s c q, _ => congrArg some (cmp_i _)
theorem dcmp_s {x : UInt64} (h : n64 x = true) : (Op.cmpValue (FP.dcmp x x) .l).toInt = 0 := by
  have e : FP.dcmp x x = some .eq := ord_s _ (dec64 (n64_to h))
  rw [e]
  rfl
theorem meS_n {z : zS} (hz : okZ z) : n32 (meS z) = true := by
  have hb := mtS_b hz
  unfold meS
  split
  · decide
  · exact fdiv_ok (by omega) hb.2
theorem rC_fr {h h' : zH} {z : zS} {c : Nat} (hC : rC h z c) (hf : fr h h' 24 8) : rC h' z c := by
  obtain ⟨c0, c1, c2, c3, ⟨rd, c4, c5, c6⟩, c7⟩ := hC
  exact ⟨(hf.2.2 0 (by omega)).trans c0, rTx_eq c1 (fun k a b => hf.2.2 k (by omega)), rDt_eq c2 (fun k a b => hf.2.2 k (by omega)), rK_e0 c3 hf.1 (fun k a => hf.2.2 k (by omega)), ⟨rd, rNw_eq c4 (fun k a b => hf.2.2 k (by omega)), c5, c6⟩, by rw [hf.2.1]; exact c7⟩
