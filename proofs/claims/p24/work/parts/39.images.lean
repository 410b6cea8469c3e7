/-! UNDO, KEEP AND BACK -/
def imS (z : zS) (i : Int) : Option zDt := if i = 0 then z.I0 else z.I1
def keS (z : zS) (i : Int) : Int × zS := if 0 ≤ i ∧ i ≤ 1 then (z.S.1.length, if i = 0 then (z.S, z.H, some z.S, z.I1, z.p, z.n, z.T) else (z.S, z.H, z.I0, some z.S, z.p, z.n, z.T)) else (-1, z)
def baS (z : zS) (i : Int) : Int × zS := if 0 ≤ i ∧ i ≤ 1 then (match imS z i with
  | none => (-2, z)
  | some D => (D.1.length, z.uS D (psh z.S z.H))) else (-1, z)
theorem rK_im {h : zH} {z : zS} {c : Nat} (hK : rK h z.H z.I0 z.I1 c) : ∃ gi, zgt h 20 = .inr (.inr (2, gi)) ∧ ∀ i, (i = 0 ∨ i = 1) → (imS z i = none → gi i = none) ∧ ∀ D, imS z i = some D → ∃ q, gi i = some q ∧ 32 ≤ q ∧ rDt h q D ∧ okDt D := by
  obtain ⟨a, nx, o, D, ⟨r1, r2, ⟨gi, r5, r6⟩, r7, r8, r9⟩, q1, q2, q3, q4, q5, q6, q7⟩ := hK
  refine ⟨gi, r5, fun i hi => ?_⟩
  have hg := r6 i (by omega) (by omega)
  have e : imS z i = (o (8 + i)).map D := by
    rcases hi with rfl | rfl
    · exact q5
    · exact q6
  rw [e]
  cases ho : o (8 + i) with
  | none => rw [ho] at hg; exact ⟨fun _ => hg, fun D' hD => by cases hD⟩
  | some k =>
    rw [ho] at hg
    refine ⟨fun q => (by cases q), fun D' hD => ?_⟩
    cases hD
    exact ⟨32 + 13 * k, hg, by omega, r7 k (r8 _ k ho)⟩
section
variable {sc : Nat × (Int → Int)} {h : zH} {Q : Option zV → zH → Prop} {z : zS} {c : Nat}
theorem s5_undo (hC : rC h z c) (hz : okZ z) (hQ : ∀ h', rC h' (unS z).2 (c + 1) → frC h h' → Q (some (.inl (unS z).1)) h') : zca sc 72 [.inr (.inl (some 0))] h Q := by
  obtain ⟨c0, c1, c2, ⟨a, nx, o, D, q0, q1, q2, q3, q4, q5, q6, q7⟩, ⟨rd, c4, c5, c6⟩, c7⟩ := id hC
  obtain ⟨-, ⟨g, gH, -⟩, -⟩ := id q0
  have hrc : ∀ as, zrecv h 1 (.inr (.inl (some 18)) :: as) = true := fun as => zrc gH.1
  unfold unS at hQ
  cases hH : z.H with
  | nil =>
    rw [hH] at hQ
    have hl : (z.H.length : Int) = 0 := by rw [hH]; rfl
    simp (disch := omega) only [e_72, w_72_0, w_72_1, w_72_2, w_72_3, w_72_4, w_72_5, w_72_6, w_72_7, w_72_8, w_72_9, w_72_10, w_72_11, w_72_12, w_72_13, w_72_14, getK, putK, ialK, iasK, aalK, aasK, alnK, zgt_u, zgt_a, Option.toList_some, Option.toList_none, List.cons_append, List.nil_append, List.map_cons, List.map_nil, List.replicate, ite_true, ite_false, if_true, if_false, List.getElem?_cons_zero, List.getElem?_cons_succ, List.set_cons_zero, List.set_cons_succ, true_and, and_true, beq_self_eq_true, zite, Int.toNat_natCast, if_pos, if_neg, zwr_id, zand, c0, hrc, s_hsize gH, hl]
    exact hQ h (rC_c hC) frC_rf
  | cons D1 H =>
    rw [hH] at hQ
    have hl : (z.H.length : Int) = (H.length : Int) + 1 := by rw [hH]; rfl
    have hl8 : z.H.length = H.length + 1 := by rw [hH]; rfl
    obtain ⟨k, k1, k2⟩ := q4 0 (by omega)
    have hD1 : D1 = D k := by rw [hH] at k2; simpa using k2
    have e : (nx - 1 - ((0 : Nat) : Int)) % 8 = (if 0 < nx then nx - 1 else 7) := by split <;> omega
    rw [e] at k1
    simp (disch := omega) only [e_72, w_72_0, w_72_1, w_72_2, w_72_3, w_72_4, w_72_5, w_72_6, w_72_7, w_72_8, w_72_9, w_72_10, w_72_11, w_72_12, w_72_13, w_72_14, getK, putK, ialK, iasK, aalK, aasK, alnK, zgt_u, zgt_a, Option.toList_some, Option.toList_none, List.cons_append, List.nil_append, List.map_cons, List.map_nil, List.replicate, ite_true, ite_false, if_true, if_false, List.getElem?_cons_zero, List.getElem?_cons_succ, List.set_cons_zero, List.set_cons_succ, true_and, and_true, beq_self_eq_true, zite, Int.toNat_natCast, if_pos, if_neg, zwr_id, zand, c0, hrc, s_hsize gH, hl]
    refine s_restore (by omega) (by omega) (by omega) (by omega) (by omega) q0 ⟨q1, q2⟩ ⟨by omega, by omega⟩ c2 k1 (fun h1 a1 a2 a3 a4 => ?_)
    have d0 : zgt h1 0 = _ := (a3 0 (by omega) (by omega) (by omega)).trans c0
    have hsz : (z.H.length : Int) - 1 = H.length := by omega
    rw [hsz] at a1
    obtain ⟨-, ⟨g', gH', -⟩, -⟩ := id a1
    have hrc' : ∀ as, zrecv h1 1 (.inr (.inl (some 18)) :: as) = true := fun as => zrc gH'.1
    simp (disch := omega) only [e_72, w_72_0, w_72_1, w_72_2, w_72_3, w_72_4, w_72_5, w_72_6, w_72_7, w_72_8, w_72_9, w_72_10, w_72_11, w_72_12, w_72_13, w_72_14, getK, putK, ialK, iasK, aalK, aasK, alnK, zgt_u, zgt_a, Option.toList_some, Option.toList_none, List.cons_append, List.nil_append, List.map_cons, List.map_nil, List.replicate, ite_true, ite_false, if_true, if_false, List.getElem?_cons_zero, List.getElem?_cons_succ, List.set_cons_zero, List.set_cons_succ, true_and, and_true, beq_self_eq_true, zite, Int.toNat_natCast, if_pos, if_neg, zwr_id, zand, d0, hrc', s_hsize gH']
    have hf : ∀ k, k < 32 → k ≠ 18 → (k < 5 ∨ 18 ≤ k) → zgt h1 k = zgt h k := fun k u v w => a3 k u v (by omega)
    refine hQ h1 ⟨d0, rTx_eq c1 (fun k u v => hf k (by omega) (by omega) (by omega)), by rw [hD1]; exact a2, ⟨a, _, o, D, a1, by split <;> omega, by split <;> omega, by show H.length ≤ 8; omega, fun j hj => ?_, q5, q6, by omega⟩, ⟨rd, rNw_eq c4 (fun k u v => hf k (by omega) (by omega) (by omega)), c5, by omega⟩, by rw [a4]; omega⟩ (fun k u v => hf k (by omega) (by omega) (by omega))
    have hj : j < H.length := hj
    obtain ⟨k', k3, k4⟩ := q4 (j + 1) (by omega)
    refine ⟨k', ?_, by rw [hH] at k4; simpa using k4⟩
    rw [← k3]
    congr 1
    split <;> omega
theorem s_lsize (hC : rC h z c) : zca sc 15 [.inr (.inl (some (5 + 1)))] h Q = Q (some (.inl (z.S.1.length : Int))) h := s_size2 hC.2.2.1.2.1
theorem lp_keep {i : Int} {q : Nat} {S0 : zDt} (hC0 : zgt h 0 = .inl (5, [.inr (.inl (some 1)), .inr (.inl (some 5)), .inr (.inl (some 18)), .inr (.inl (some 20)), .inr (.inl (some 21)), .inl z.p])) (hD : rDt h 5 z.S) (hok : okDt z.S) (hd : rDt h q S0) (hq : 32 ≤ q) (hQ : ∀ h', rDt h' q z.S → fr h h' q 13 → Q (some (.inl (z.S.1.length : Int))) h') : zwp sc 81 23 [some (.inr (.inl (some 0))), some (.inl i), some (.inr (.inl (some q)))] [] h Q := by
  simp (disch := omega) only [e_81, w_81_23, w_81_24, w_81_25, w_81_26, w_81_27, w_81_28, w_81_29, w_81_30, w_81_31, getK, putK, ialK, iasK, aalK, aasK, alnK, zgt_u, zgt_a, Option.toList_some, Option.toList_none, List.cons_append, List.nil_append, List.map_cons, List.map_nil, List.replicate, ite_true, ite_false, if_true, if_false, List.getElem?_cons_zero, List.getElem?_cons_succ, List.set_cons_zero, List.set_cons_succ, true_and, and_true, beq_self_eq_true, zite, Int.toNat_natCast, if_pos, if_neg, zwr_id, zand, hC0, rDt_rc hd]
  refine s_copy0 (Or.inl (by omega)) (shD_of hd) hD hok (fun h' j1 j2 => ?_)
  have d0 : zgt h' 0 = _ := (j2.2.2 0 (by omega)).trans hC0
  have d2 := rDt_fr hD j2 (by omega)
  simp (disch := omega) only [e_81, w_81_23, w_81_24, w_81_25, w_81_26, w_81_27, w_81_28, w_81_29, w_81_30, w_81_31, getK, putK, ialK, iasK, aalK, aasK, alnK, zgt_u, zgt_a, Option.toList_some, Option.toList_none, List.cons_append, List.nil_append, List.map_cons, List.map_nil, List.replicate, ite_true, ite_false, if_true, if_false, List.getElem?_cons_zero, List.getElem?_cons_succ, List.set_cons_zero, List.set_cons_succ, true_and, and_true, beq_self_eq_true, zite, Int.toNat_natCast, if_pos, if_neg, zwr_id, zand, d0, rDt_rc d2, s_live d2, rIt_rc d2.2.1, s_size2 d2.2.1]
  exact hQ h' j1 j2
/-- the store after an image was laid: dictionary number j is S now, held by 8 + i -/
theorem keep_K {h' : zH} {a : Nat} {nx sz i : Int} {o : Int → Option Nat} {D : Nat → zDt} {j a' : Nat} {gi : Int → Option Nat} {S : zDt} (q0 : rSt h 32 a 18 20 nx sz o D) (hi : 0 ≤ i ∧ i ≤ 1)
    (hj : (o (8 + i) = some j ∧ a' = a) ∨ (o (8 + i) = none ∧ j = a ∧ a' = a + 1)) (h1 : h'.1 = 32 + 13 * a') (hD : rDt h' (32 + 13 * j) S) (hok : okDt S) (h20 : zgt h' 20 = .inr (.inr (2, gi))) (hgi : ∀ k, 0 ≤ k → k < 2 → gi k = if k = i then some (32 + 13 * j) else (o (8 + k)).map (fun j => 32 + 13 * j)) (hf : ∀ k, (k = 18 ∨ k = 19 ∨ (32 ≤ k ∧ k < 32 + 13 * a ∧ (k < 32 + 13 * j ∨ 32 + 13 * j + 13 ≤ k))) → zgt h' k = zgt h k) :
    rSt h' 32 a' 18 20 nx sz (fun k => if k = 8 + i then some j else o k) (fun k => if k = j then S else D k) := by
  obtain ⟨r1, ⟨g, ⟨r2, r3⟩, r4⟩, ⟨gi0, r5, r6⟩, r7, r8, r9⟩ := q0
  have hjo : ∀ k, k ≠ 8 + i → o k ≠ some j := by
    intro k hk e
    rcases hj with ⟨e1, -⟩ | ⟨-, e1, -⟩
    · exact hk (r9 k (8 + i) j e e1)
    · have := r8 k j e; omega
  refine ⟨h1, ⟨g, ⟨by rw [hf 18 (Or.inl rfl)]; exact r2, by rw [hf 19 (Or.inr (Or.inl rfl))]; exact r3⟩, fun k k0 k8 => ?_⟩, ⟨gi, h20, fun k k0 k2 => ?_⟩, fun k hk => ?_, fun k m hm => ?_, fun k k' m hm hm' => ?_⟩
  · dsimp only
    rw [if_neg (by omega)]; exact r4 k k0 k8
  · rw [hgi k k0 k2]
    dsimp only
    by_cases e : k = i
    · rw [if_pos e, if_pos (by omega)]; rfl
    · rw [if_neg e, if_neg (by omega)]
  · dsimp only
    by_cases e : k = j
    · subst e
      rw [if_pos rfl]
      exact ⟨hD, hok⟩
    · rw [if_neg e]
      have hka : k < a := by omega
      exact ⟨rDt_eq (r7 k hka).1 (fun m u v => hf m (by omega)), (r7 k hka).2⟩
  · dsimp only at hm
    split at hm
    · cases hm
      rcases hj with ⟨e1, e2⟩ | ⟨-, e1, e2⟩
      · have := r8 _ _ e1; omega
      · omega
    · have := r8 _ _ hm; omega
  · dsimp only at hm hm'
    split at hm
    next e1 =>
      split at hm'
      next e2 => omega
      next e2 => cases hm; exact absurd hm' (hjo k' e2)
    next e1 =>
      split at hm'
      next e2 => cases hm'; exact absurd hm (hjo k e1)
      next e2 => exact r9 k k' m hm hm'
theorem keep_C {h' : zH} {nx i : Int} {o : Int → Option Nat} {D : Nat → zDt} {j a' : Nat} (hC : rC h z c) (q1 : 0 ≤ nx) (q2 : nx < 8) (q3 : z.H.length ≤ 8) (q4 : ∀ j : Nat, j < z.H.length → ∃ k, o ((nx - 1 - j) % 8) = some k ∧ z.H[j]? = some (D k)) (q5 : z.I0 = (o 8).map D) (q6 : z.I1 = (o 9).map D) (q7 : a' ≤ c + 1) (hi : 0 ≤ i ∧ i ≤ 1) (hjo : ∀ k, k ≠ 8 + i → o k ≠ some j)
    (hK : rSt h' 32 a' 18 20 nx z.H.length (fun k => if k = 8 + i then some j else o k) (fun k => if k = j then z.S else D k)) (hf : ∀ k, k < 18 ∨ (21 ≤ k ∧ k < 24) → zgt h' k = zgt h k) (hs : h'.2.1 ≤ h.2.1 + 449) : rC h' (keS z i).2 (c + 1) := by
  obtain ⟨c0, c1, c2, -, ⟨rd, c4, c5, c6⟩, c7⟩ := hC
  have k1 : h'.2.1 ≤ 20000 + 449 * (c + 1) := Nat.le_trans hs (by rw [Nat.mul_add, Nat.mul_one, ← Nat.add_assoc]; exact Nat.add_le_add_right c7 449)
  have hx : ∀ k, k ≠ 8 + i → (o k).map (fun k => if k = j then z.S else D k) = (o k).map D := by
    intro k hk
    cases ho : o k with
    | none => rfl
    | some m => simp only [Option.map_some]; rw [if_neg (fun e => hjo k hk (by rw [ho, e]))]
  have hH : ∀ m : Nat, m < z.H.length → ∃ k, (if (nx - 1 - m) % 8 = 8 + i then some j else o ((nx - 1 - m) % 8)) = some k ∧ z.H[m]? = some (if k = j then z.S else D k) := by
    intro m hm
    obtain ⟨k, k1, k2⟩ := q4 m hm
    refine ⟨k, by rw [if_neg (by omega)]; exact k1, ?_⟩
    rw [if_neg (fun e => hjo ((nx - 1 - m) % 8) (by omega) (by rw [k1, e]))]
    exact k2
  unfold keS
  rw [if_pos hi]
  dsimp only
  by_cases e : i = 0
  · rw [if_pos e]
    subst e
    exact ⟨(hf 0 (by omega)).trans c0, rTx_eq c1 (fun k u v => hf k (by omega)), rDt_eq c2 (fun k u v => hf k (by omega)), ⟨a', nx, _, _, hK, q1, q2, q3, hH, by simp, by rw [if_neg (by omega), hx 9 (by omega)]; exact q6, q7⟩, ⟨rd, rNw_eq c4 (fun k u v => hf k (by omega)), c5, by omega⟩, k1⟩
  · rw [if_neg e]
    have e : i = 1 := by omega
    subst e
    exact ⟨(hf 0 (by omega)).trans c0, rTx_eq c1 (fun k u v => hf k (by omega)), rDt_eq c2 (fun k u v => hf k (by omega)), ⟨a', nx, _, _, hK, q1, q2, q3, hH, by rw [if_neg (by omega), hx 8 (by omega)]; exact q5, by simp, q7⟩, ⟨rd, rNw_eq c4 (fun k u v => hf k (by omega)), c5, by omega⟩, k1⟩
theorem s5_keep {i : Int} (hC : rC h z c) (hz : okZ z) (hQ : ∀ h', rC h' (keS z i).2 (c + 1) → frC h h' → Q (some (.inl (keS z i).1)) h') : zca sc 81 [.inr (.inl (some 0)), .inl i] h Q := by
  obtain ⟨c0, c1, c2, ⟨a, nx, o, D, q0, q1, q2, q3, q4, q5, q6, q7⟩, ⟨rd, c4, c5, c6⟩, c7⟩ := id hC
  obtain ⟨r1, -, ⟨gi, r5, r6⟩, r7, r8, r9⟩ := id q0
  by_cases hi : 0 ≤ i ∧ i ≤ 1
  · have hg := r6 i hi.1 (by omega)
    have hres : (keS z i).1 = z.S.1.length := by unfold keS; rw [if_pos hi]
    rw [hres] at hQ
    cases ho : o (8 + i) with
    | some j =>
      rw [ho] at hg
      have hg : gi i = some (32 + 13 * j) := hg
      have hja := r8 _ j ho
      simp (disch := omega) only [e_81, w_81_0, w_81_1, w_81_2, w_81_3, w_81_4, w_81_5, w_81_6, w_81_7, w_81_8, w_81_9, w_81_10, w_81_11, w_81_12, w_81_13n, w_81_13s, w_81_14, w_81_15, w_81_16, w_81_17, w_81_18, w_81_19, w_81_20, w_81_21, w_81_22, getK, putK, ialK, iasK, aalK, aasK, alnK, zgt_u, zgt_a, Option.toList_some, Option.toList_none, List.cons_append, List.nil_append, List.map_cons, List.map_nil, List.replicate, ite_true, ite_false, if_true, if_false, List.getElem?_cons_zero, List.getElem?_cons_succ, List.set_cons_zero, List.set_cons_succ, true_and, and_true, beq_self_eq_true, zite, Int.toNat_natCast, if_pos, if_neg, zwr_id, zand, c0, r5, hg]
      refine lp_keep c0 c2 hz.1 (r7 j hja).1 (by omega) (fun h' j1 j2 => ?_)
      refine hQ h' (keep_C hC q1 q2 q3 q4 q5 q6 (by omega) hi (fun k hk e => hk (r9 k (8 + i) j e ho)) (keep_K (a' := a) (gi := gi) q0 hi (Or.inl ⟨ho, rfl⟩) (j2.1.trans r1) j1 hz.1 ((j2.2.2 20 (by omega)).trans r5) (fun k k0 k2 => ?_) (fun k hk => j2.2.2 k (by omega))) (fun k hk => j2.2.2 k (by omega)) (by rw [j2.2.1]; omega)) (fun k u v => j2.2.2 k (by omega))
      rw [r6 k k0 k2]
      by_cases e : k = i
      · rw [if_pos e, e, ho]; rfl
      · rw [if_neg e]
    | none =>
      rw [ho] at hg
      have hg : gi i = none := hg
      simp (disch := omega) only [e_81, w_81_0, w_81_1, w_81_2, w_81_3, w_81_4, w_81_5, w_81_6, w_81_7, w_81_8, w_81_9, w_81_10, w_81_11, w_81_12, w_81_13n, w_81_13s, w_81_14, w_81_15, w_81_16, w_81_17, w_81_18, w_81_19, w_81_20, w_81_21, w_81_22, getK, putK, ialK, iasK, aalK, aasK, alnK, zgt_u, zgt_a, Option.toList_some, Option.toList_none, List.cons_append, List.nil_append, List.map_cons, List.map_nil, List.replicate, ite_true, ite_false, if_true, if_false, List.getElem?_cons_zero, List.getElem?_cons_succ, List.set_cons_zero, List.set_cons_succ, true_and, and_true, beq_self_eq_true, zite, Int.toNat_natCast, if_pos, if_neg, zwr_id, zand, c0, r5, hg, zrc_a r1, r1]
      refine s_init0 (by rw [zgt_a, if_pos r1.symm]) (by show h.1 + 1 = _; omega) (fun h2 j1 j2 => ?_)
      have j2 : frA h h2 (32 + 13 * a) 13 449 := frA_tr (frA_a (by omega)) j2 (Nat.le_refl _)
      have c0' : zgt h2 0 = _ := (j2.2.2 0 (by omega)).trans c0
      have r5' : zgt h2 20 = _ := (j2.2.2 20 (by omega)).trans r5
      have hisD : isD h2 (32 + 13 * a) = true := by unfold isD; rw [j1.1]; rfl
      simp (disch := omega) only [e_81, w_81_0, w_81_1, w_81_2, w_81_3, w_81_4, w_81_5, w_81_6, w_81_7, w_81_8, w_81_9, w_81_10, w_81_11, w_81_12, w_81_13n, w_81_13s, w_81_14, w_81_15, w_81_16, w_81_17, w_81_18, w_81_19, w_81_20, w_81_21, w_81_22, getK, putK, ialK, iasK, aalK, aasK, alnK, zgt_u, zgt_a, Option.toList_some, Option.toList_none, List.cons_append, List.nil_append, List.map_cons, List.map_nil, List.replicate, ite_true, ite_false, if_true, if_false, List.getElem?_cons_zero, List.getElem?_cons_succ, List.set_cons_zero, List.set_cons_succ, true_and, and_true, beq_self_eq_true, zite, Int.toNat_natCast, if_pos, if_neg, zwr_id, zand, c0', r5', hisD, aasK]
      generalize hh : zuH h2 20 _ = h3
      have hf3 : fr h2 h3 20 1 := by rw [← hh]; exact fr_u fr_rf (Nat.le_refl _) (by omega)
      have c0'' : zgt h3 0 = _ := (hf3.2.2 0 (by omega)).trans c0'
      refine lp_keep c0'' (rDt_fr (rDt_frA c2 j2 (by omega)) hf3 (by omega)) hz.1 (rDt_fr j1 hf3 (by omega)) (by omega) (fun h' j3 j4 => ?_)
      have hold : ∀ k, k < 32 + 13 * a → k ≠ 20 → zgt h' k = zgt h k := fun k u v => (j4.2.2 k (by omega)).trans ((hf3.2.2 k (by omega)).trans (j2.2.2 k u))
      have h20 : zgt h' 20 = .inr (.inr (2, zup gi i (some (32 + 13 * a)))) := by
        rw [j4.2.2 20 (by omega), ← hh]
        simp (disch := omega) only [zgt_u, zgt_a, if_pos, if_neg, if_true, if_false, ite_true, ite_false]
      refine hQ h' (keep_C (a' := a + 1) (j := a) hC q1 q2 q3 q4 q5 q6 (by omega) hi (fun k hk e => by have := r8 k a e; omega) (keep_K (a' := a + 1) (j := a) q0 hi (Or.inr ⟨ho, rfl, rfl⟩) (by rw [j4.1, hf3.1, j2.1, r1]; omega) j3 hz.1 h20 (fun k k0 k2 => ?_) (fun k hk => hold k (by omega) (by omega))) (fun k hk => hold k (by omega) (by omega)) (by rw [j4.2.1, hf3.2.1, j2.2.1]; omega)) (fun k u v => hold k (by omega) (by omega))
      by_cases e : k = i
      · rw [if_pos e, e, zup_s]
      · rw [if_neg e, zup_n e]; exact r6 k k0 k2
  · unfold keS at hQ
    rw [if_neg hi] at hQ
    by_cases h0 : 0 ≤ i
    · simp (disch := omega) only [e_81, w_81_0, w_81_1, w_81_2, w_81_3, w_81_4, w_81_5, w_81_6, w_81_7, w_81_8, w_81_9, w_81_10, w_81_11, w_81_12, w_81_13n, w_81_13s, w_81_14, w_81_15, w_81_16, w_81_17, w_81_18, w_81_19, w_81_20, w_81_21, w_81_22, w_81_23, w_81_24, w_81_25, w_81_26, w_81_27, w_81_28, w_81_29, w_81_30, w_81_31, getK, putK, ialK, iasK, aalK, aasK, alnK, zgt_u, zgt_a, Option.toList_some, Option.toList_none, List.cons_append, List.nil_append, List.map_cons, List.map_nil, List.replicate, ite_true, ite_false, if_true, if_false, List.getElem?_cons_zero, List.getElem?_cons_succ, List.set_cons_zero, List.set_cons_succ, true_and, and_true, beq_self_eq_true, zite, Int.toNat_natCast, if_pos, if_neg, zwr_id, zand, c0]
      exact hQ h (rC_c hC) frC_rf
    · simp (disch := omega) only [e_81, w_81_0, w_81_1, w_81_2, w_81_3, w_81_4, w_81_5, w_81_6, w_81_7, w_81_8, w_81_9, w_81_10, w_81_11, w_81_12, w_81_13n, w_81_13s, w_81_14, w_81_15, w_81_16, w_81_17, w_81_18, w_81_19, w_81_20, w_81_21, w_81_22, w_81_23, w_81_24, w_81_25, w_81_26, w_81_27, w_81_28, w_81_29, w_81_30, w_81_31, getK, putK, ialK, iasK, aalK, aasK, alnK, zgt_u, zgt_a, Option.toList_some, Option.toList_none, List.cons_append, List.nil_append, List.map_cons, List.map_nil, List.replicate, ite_true, ite_false, if_true, if_false, List.getElem?_cons_zero, List.getElem?_cons_succ, List.set_cons_zero, List.set_cons_succ, true_and, and_true, beq_self_eq_true, zite, Int.toNat_natCast, if_pos, if_neg, zwr_id, zand, c0]
      exact hQ h (rC_c hC) frC_rf
theorem s5_back {i : Int} (hC : rC h z c) (hz : okZ z) (hQ : ∀ h', rC h' (baS z i).2 (c + 1) → frC h h' → Q (some (.inl (baS z i).1)) h') : zca sc 82 [.inr (.inl (some 0)), .inl i] h Q := by
  have c0 := hC.1
  obtain ⟨gi, g20, g1⟩ := rK_im hC.2.2.2.1
  have hrc : ∀ as, zrecv h 1 (.inr (.inl (some 18)) :: as) = true := by
    obtain ⟨a, nx, o, D, ⟨-, ⟨g, ⟨g1, -⟩, -⟩, -⟩, -⟩ := hC.2.2.2.1
    exact fun as => zrc g1
  by_cases hi : 0 ≤ i ∧ i ≤ 1
  · unfold baS at hQ
    rw [if_pos hi] at hQ
    obtain ⟨e1, e2⟩ := g1 i (by omega)
    cases hm : imS z i with
    | none =>
      rw [hm] at hQ
      have hg := e1 hm
      simp (disch := omega) only [e_82, w_82_0, w_82_1, w_82_2, w_82_3, w_82_4, w_82_5, w_82_6, w_82_7, w_82_8, w_82_9, w_82_10, w_82_11, w_82_12, w_82_13n, w_82_13s, w_82_14, w_82_15, w_82_16, w_82_17, w_82_18, w_82_19, w_82_20, w_82_21, w_82_22, w_82_23, w_82_24, w_82_25, w_82_26, w_82_27, w_82_28, w_82_29, getK, putK, ialK, iasK, aalK, aasK, alnK, zgt_u, zgt_a, Option.toList_some, Option.toList_none, List.cons_append, List.nil_append, List.map_cons, List.map_nil, List.replicate, ite_true, ite_false, if_true, if_false, List.getElem?_cons_zero, List.getElem?_cons_succ, List.set_cons_zero, List.set_cons_succ, true_and, and_true, beq_self_eq_true, zite, Int.toNat_natCast, if_pos, if_neg, zwr_id, zand, c0, g20, hg]
      exact hQ h (rC_c hC) frC_rf
    | some D =>
      rw [hm] at hQ
      obtain ⟨q, hg, -, -, -⟩ := e2 D hm
      simp (disch := omega) only [e_82, w_82_0, w_82_1, w_82_2, w_82_3, w_82_4, w_82_5, w_82_6, w_82_7, w_82_8, w_82_9, w_82_10, w_82_11, w_82_12, w_82_13n, w_82_13s, w_82_14, w_82_15, w_82_16, w_82_17, w_82_18, w_82_19, w_82_20, w_82_21, w_82_22, w_82_23, w_82_24, w_82_25, w_82_26, w_82_27, w_82_28, w_82_29, getK, putK, ialK, iasK, aalK, aasK, alnK, zgt_u, zgt_a, Option.toList_some, Option.toList_none, List.cons_append, List.nil_append, List.map_cons, List.map_nil, List.replicate, ite_true, ite_false, if_true, if_false, List.getElem?_cons_zero, List.getElem?_cons_succ, List.set_cons_zero, List.set_cons_succ, true_and, and_true, beq_self_eq_true, zite, Int.toNat_natCast, if_pos, if_neg, zwr_id, zand, c0, g20, hg, hrc]
      refine s5_rec hC hz (fun h1 a1 a2 a3 => ?_)
      have d0 := a1.1
      have d2 := a1.2.2.1
      obtain ⟨gi', g20', g1'⟩ := rK_im (z := z.uS z.S (psh z.S z.H)) a1.2.2.2.1
      have hgg : gi' = gi := by
        rw [a3, g20] at g20'
        simpa using g20'.symm
      subst hgg
      obtain ⟨q', hg', hq', hDq, hokq⟩ := (g1' i (by omega)).2 D hm
      rw [hg] at hg'
      cases hg'
      simp (disch := omega) only [e_82, w_82_0, w_82_1, w_82_2, w_82_3, w_82_4, w_82_5, w_82_6, w_82_7, w_82_8, w_82_9, w_82_10, w_82_11, w_82_12, w_82_13n, w_82_13s, w_82_14, w_82_15, w_82_16, w_82_17, w_82_18, w_82_19, w_82_20, w_82_21, w_82_22, w_82_23, w_82_24, w_82_25, w_82_26, w_82_27, w_82_28, w_82_29, getK, putK, ialK, iasK, aalK, aasK, alnK, zgt_u, zgt_a, Option.toList_some, Option.toList_none, List.cons_append, List.nil_append, List.map_cons, List.map_nil, List.replicate, ite_true, ite_false, if_true, if_false, List.getElem?_cons_zero, List.getElem?_cons_succ, List.set_cons_zero, List.set_cons_succ, true_and, and_true, beq_self_eq_true, zite, Int.toNat_natCast, if_pos, if_neg, zwr_id, zand, d0, rDt_rc d2]
      refine s_copy0 (Or.inr (by omega)) (shD_of d2) hDq hokq (fun h2 b1 b2 => ?_)
      have f1 := rC_S a1 b1 b2
      have f0 := f1.1
      simp (disch := omega) only [e_82, w_82_0, w_82_1, w_82_2, w_82_3, w_82_4, w_82_5, w_82_6, w_82_7, w_82_8, w_82_9, w_82_10, w_82_11, w_82_12, w_82_13n, w_82_13s, w_82_14, w_82_15, w_82_16, w_82_17, w_82_18, w_82_19, w_82_20, w_82_21, w_82_22, w_82_23, w_82_24, w_82_25, w_82_26, w_82_27, w_82_28, w_82_29, getK, putK, ialK, iasK, aalK, aasK, alnK, zgt_u, zgt_a, Option.toList_some, Option.toList_none, List.cons_append, List.nil_append, List.map_cons, List.map_nil, List.replicate, ite_true, ite_false, if_true, if_false, List.getElem?_cons_zero, List.getElem?_cons_succ, List.set_cons_zero, List.set_cons_succ, true_and, and_true, beq_self_eq_true, zite, Int.toNat_natCast, if_pos, if_neg, zwr_id, zand, f0, rDt_rc b1, s_live b1, rIt_rc b1.2.1, s_size2 b1.2.1]
      exact hQ h2 f1 (frC_tr a2 (frC_fr b2 (by omega)))
  · unfold baS at hQ
    rw [if_neg hi] at hQ
    by_cases h0 : 0 ≤ i
    · simp (disch := omega) only [e_82, w_82_0, w_82_1, w_82_2, w_82_3, w_82_4, w_82_5, w_82_6, w_82_7, w_82_8, w_82_9, w_82_10, w_82_11, w_82_12, w_82_13n, w_82_13s, w_82_14, w_82_15, w_82_16, w_82_17, w_82_18, w_82_19, w_82_20, w_82_21, w_82_22, w_82_23, w_82_24, w_82_25, w_82_26, w_82_27, w_82_28, w_82_29, getK, putK, ialK, iasK, aalK, aasK, alnK, zgt_u, zgt_a, Option.toList_some, Option.toList_none, List.cons_append, List.nil_append, List.map_cons, List.map_nil, List.replicate, ite_true, ite_false, if_true, if_false, List.getElem?_cons_zero, List.getElem?_cons_succ, List.set_cons_zero, List.set_cons_succ, true_and, and_true, beq_self_eq_true, zite, Int.toNat_natCast, if_pos, if_neg, zwr_id, zand, c0]
      exact hQ h (rC_c hC) frC_rf
    · simp (disch := omega) only [e_82, w_82_0, w_82_1, w_82_2, w_82_3, w_82_4, w_82_5, w_82_6, w_82_7, w_82_8, w_82_9, w_82_10, w_82_11, w_82_12, w_82_13n, w_82_13s, w_82_14, w_82_15, w_82_16, w_82_17, w_82_18, w_82_19, w_82_20, w_82_21, w_82_22, w_82_23, w_82_24, w_82_25, w_82_26, w_82_27, w_82_28, w_82_29, getK, putK, ialK, iasK, aalK, aasK, alnK, zgt_u, zgt_a, Option.toList_some, Option.toList_none, List.cons_append, List.nil_append, List.map_cons, List.map_nil, List.replicate, ite_true, ite_false, if_true, if_false, List.getElem?_cons_zero, List.getElem?_cons_succ, List.set_cons_zero, List.set_cons_succ, true_and, and_true, beq_self_eq_true, zite, Int.toNat_natCast, if_pos, if_neg, zwr_id, zand, c0]
      exact hQ h (rC_c hC) frC_rf
end
