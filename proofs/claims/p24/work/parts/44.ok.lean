/-! WHAT THE ANSWERS KEEP -/
theorem gI_mem {L : List zI} {k : Int} (h0 : 0 ≤ k) (h1 : k < L.length) : L[k.toNat]? = some (gI L k) ∧ gI L k ∈ L := by
  unfold gI
  rw [if_pos h0, List.getD_eq_getElem?_getD, List.getElem?_eq_getElem (by omega)]
  exact ⟨rfl, List.getElem_mem _⟩
theorem okZ_wr {z : zS} {x : Int} (hz : okZ z) : okZ (wrS z x).2 := by
  unfold wrS
  split
  next h1 =>
    split
    · exact hz
    next h2 =>
      obtain ⟨a1, a2, a3, a4, a5, a6, a7⟩ := hz
      refine ⟨a1, a2, a3, a4, a5, Or.inr ?_, a7⟩
      show wd (z.p * 10 + x + 1)
      have hp : 0 ≤ z.p := by rcases a6 with q | q; omega; unfold wd at q; omega
      have hd : dg z.p = true := by
        rcases a6 with q | q
        · rw [q]; exact dg_0 (Int.le_refl _)
        · exact q.2.2
      have h5 := nd_lt5 h2
      have hdg : dg (z.p * 10 + x + 1) = true := by
        rw [dg_p (by omega), show (z.p * 10 + x + 1) / 10 = z.p by omega, hd, show (z.p * 10 + x + 1) % 10 = x + 1 by omega]
        simp
        omega
      exact wd_vc (vc_le (by omega) (by omega) hdg) (by omega)
  · exact hz
theorem okZ_uP {z : zS} {v : Int} (hz : okZ z) (hv : v = 0 ∨ wd v) : okZ (z.uP v) := by
  obtain ⟨a1, a2, a3, a4, a5, a6, a7⟩ := hz
  exact ⟨a1, a2, a3, a4, a5, hv, a7⟩
theorem okZ_wi {z : zS} (hz : okZ z) : okZ (wiS z).2 := okZ_uP hz (Or.inl rfl)
theorem okZ_sp {z : zS} {x : Int} (hz : okZ z) : okZ (spS z x).2 := by
  unfold spS
  split
  · exact okZ_uP hz (Or.inr (by assumption))
  · exact hz
theorem okZ_ty {z : zS} (hz : okZ z) : okZ (tyS z).2 := by
  unfold tyS
  split
  · exact hz
  next h1 =>
    split
    · exact hz
    next h2 =>
      obtain ⟨a1, a2, a3, a4, a5, a6, a7⟩ := hz
      refine ⟨a1, a2, a3, a4, a5, a6, ?_⟩
      rcases a6 with q | q
      · exact absurd q h1
      · have hn := nd_nn z.p
        have := okT_ap (T := z.T) q.2.2 (nd z.p).toNat z.T z.n a7 (by omega) (by omega)
        rw [show (((nd z.p).toNat : Nat) : Int) = nd z.p by omega] at this
        exact this
theorem okZ_cl {z : zS} (hz : okZ z) : okZ (clS z).2 := by
  obtain ⟨a1, a2, a3, a4, a5, a6, a7⟩ := hz
  exact ⟨a1, a2, a3, a4, a5, a6, Int.le_refl _, by show (0 : Int) ≤ 60; omega, fun i h1 h2 => absurd h2 (by show ¬ i < 0; omega)⟩
theorem okZ_ch {z : zS} {S : zDt} (hz : okZ z) (hS : okDt S) : okZ (z.uS S (psh z.S z.H)) := by
  obtain ⟨a1, a2, a3, a4, a5, a6, a7⟩ := hz
  refine ⟨hS, fun D hD => ?_, ?_, a4, a5, a6, a7⟩
  · rcases psh_mem hD with q | q
    · rw [q]; exact a1
    · exact a2 D q
  · show (psh z.S z.H).length ≤ 8
    unfold psh
    rw [List.length_take]
    omega
theorem okZ_in {z : zS} {w : Int} (hz : okZ z) : okZ (inS z w).2 := by
  unfold inS
  split
  next h1 =>
    split
    · exact hz
    next h2 =>
      split
      · exact hz
      next h3 =>
        refine okZ_ch hz (entS_ok hz.1 (by omega) ?_ h1 ?_)
        · rcases hz.2.2.2.2.2.1 with q | q
          · exact absurd (Or.inl q) h2
          · exact q
        · rcases ix_some hz.1.2.2.2.1 z.p with q | ⟨j, x, -, q, -⟩
          · exact q.2
          · exact absurd (Or.inr (by omega)) h2
  · exact hz
theorem dp_x {z : zS} (hz : okZ z) (h : ¬ ixf z.p 0 z.S.1 < 0) : z.S.1[(ixf z.p 0 z.S.1).toNat]? = some (gI z.S.1 (ixf z.p 0 z.S.1)) ∧ (gI z.S.1 (ixf z.p 0 z.S.1)).2.1 = z.p ∧ gI z.S.1 (ixf z.p 0 z.S.1) ∈ z.S.1 := by
  rcases ix_some hz.1.2.2.2.1 z.p with q | ⟨j, x, x1, x2, x3, x4, x5, x6⟩
  · omega
  · rw [x2, x3, Int.toNat_natCast]
    exact ⟨x1, x4, x5⟩
theorem okZ_rm {z : zS} (hz : okZ z) : okZ (rmS z).2 := by
  unfold rmS
  split
  · exact hz
  next h => exact okZ_ch hz (droS_ok hz.1 (dp_x hz h).1)
theorem okZ_we {z : zS} {w : Int} (hz : okZ z) : okZ (weS z w).2 := by
  unfold weS
  split
  next h1 =>
    split
    · exact hz
    next h =>
      obtain ⟨x1, x2, x3⟩ := dp_x hz h
      have hl := len_eraseIdx (List.getElem?_eq_some_iff.mp x1).1
      have h24 := hz.1.2.2.2.2.1
      have e1 : (dpS z).1 = z.S.1.eraseIdx (ixf z.p 0 z.S.1).toNat := droS_1
      refine okZ_ch hz (entS_ok (droS_ok hz.1 x1) (by rw [e1]; omega) ?_ h1 ?_)
      · rw [← x2]; exact (hz.1.1 _ x3).2.2.1
      · intro y hy
        rw [e1] at hy
        have := ers_ne hz.1.2.2.2.1 x1 y hy
        rw [x2] at this
        exact this
  · exact hz
theorem okZ_rb {z : zS} (hz : okZ z) : okZ (rbS z).2 := okZ_ch hz (renS_ok hz.1.1 hz.1.2.2.2.1 hz.1.2.2.2.2.1)
theorem okZ_un {z : zS} (hz : okZ z) : okZ (unS z).2 := by
  unfold unS
  split
  · exact hz
  next D H e =>
    obtain ⟨a1, a2, a3, a4, a5, a6, a7⟩ := hz
    refine ⟨a2 D (by rw [e]; simp), fun D' hD => a2 D' (by rw [e]; exact List.mem_cons_of_mem _ hD), ?_, a4, a5, a6, a7⟩
    rw [e, List.length_cons] at a3
    show H.length ≤ 8
    omega
theorem okZ_ke {z : zS} {i : Int} (hz : okZ z) : okZ (keS z i).2 := by
  unfold keS
  obtain ⟨a1, a2, a3, a4, a5, a6, a7⟩ := id hz
  split
  · dsimp only
    split
    · exact ⟨a1, a2, a3, fun D hD => (by cases hD; exact a1), a5, a6, a7⟩
    · exact ⟨a1, a2, a3, a4, fun D hD => (by cases hD; exact a1), a6, a7⟩
  · exact hz
theorem okZ_ba {z : zS} {i : Int} (hz : okZ z) : okZ (baS z i).2 := by
  unfold baS
  split
  · split
    · exact hz
    next D e =>
      refine okZ_ch hz ?_
      unfold imS at e
      split at e
      · exact hz.2.2.2.1 D e
      · exact hz.2.2.2.2.1 D e
  · exact hz
/-! the beginning -/
def z0S : zS := (zD0, [], none, none, 0, 0, fun _ => 0)
theorem okZ_0 : okZ z0S := ⟨zD0_ok, fun D hD => (by cases hD), by decide, fun D hD => (by cases hD), fun D hD => (by cases hD), Or.inl rfl, by decide, by decide, fun i h1 h2 => absurd h2 (by show ¬ i < 0; omega)⟩
section
variable {sc : Nat × (Int → Int)} {h : zH} {Q : Option zV → zH → Prop}
theorem s5_init {x0 x1 x2 x3 x4 : Option Nat} {x5 : Int} (h0 : zgt h 0 = .inl (5, [.inr (.inl x0), .inr (.inl x1), .inr (.inl x2), .inr (.inl x3), .inr (.inl x4), .inl x5])) (hb : h.1 = 1) (hQ : ∀ h', (zgt h' 0 = .inl (5, [.inr (.inl (some 1)), .inr (.inl (some 5)), .inr (.inl (some 18)), .inr (.inl (some 20)), .inr (.inl (some 21)), .inl 0])) → rTx h' 1 0 (fun _ => 0) → rDt h' 5 zD0 → rHi h' 18 0 0 (fun _ => none) → zgt h' 20 = .inr (.inr (2, fun _ => none)) → rNw h' 21 0 → h'.1 = 24 → h'.2.1 ≤ h.2.1 + 10000 → Q none h') : zca sc 64 [.inr (.inl (some 0))] h Q := by
  simp (disch := omega) only [e_64, w_64_0, w_64_1, w_64_2, w_64_3, w_64_4, w_64_5, getK, putK, ialK, iasK, aalK, aasK, alnK, zgt_u, zgt_a, Option.toList_some, Option.toList_none, List.cons_append, List.nil_append, List.map_cons, List.map_nil, List.replicate, ite_true, ite_false, if_true, if_false, List.getElem?_cons_zero, List.getElem?_cons_succ, List.set_cons_zero, List.set_cons_succ, true_and, and_true, beq_self_eq_true, zite, Int.toNat_natCast, if_pos, if_neg, zwr_id, zand, h0, zrc_a hb, hb]
  refine s_init4 (by rw [zgt_a, if_pos hb.symm]) (by show h.1 + 1 = _; omega) (fun h1 j1 j2 => ?_)
  have j2 : frA h h1 1 4 (4 + 182) := frA_tr (frA_a (by omega)) j2 (Nat.le_refl _)
  have b1 : h1.1 = 5 := by rw [j2.1, hb]
  have h01 : zgt h1 0 = _ := (j2.2.2 0 (by omega)).trans h0
  simp (disch := omega) only [e_64, w_64_6, getK, putK, ialK, iasK, aalK, aasK, alnK, zgt_u, zgt_a, Option.toList_some, Option.toList_none, List.cons_append, List.nil_append, List.map_cons, List.map_nil, List.replicate, ite_true, ite_false, if_true, if_false, List.getElem?_cons_zero, List.getElem?_cons_succ, List.set_cons_zero, List.set_cons_succ, true_and, and_true, beq_self_eq_true, zite, Int.toNat_natCast, if_pos, if_neg, zwr_id, zand, h01]
  generalize hg1 : zuH h1 0 _ = k1
  have f1 : fr h1 k1 0 1 := by rw [← hg1]; exact fr_u fr_rf (Nat.le_refl _) (by omega)
  have c1 : k1.1 = 5 := f1.1.trans b1
  have k01 : zgt k1 0 = .inl (5, [.inr (.inl (some 1)), .inr (.inl x1), .inr (.inl x2), .inr (.inl x3), .inr (.inl x4), .inl x5]) := by
    rw [← hg1]
    simp (disch := omega) only [zgt_u, zgt_a, if_pos, if_neg, if_true, if_false, ite_true, ite_false]
  have t1 := rTx_eq j1 (fun k u v => f1.2.2 k (by omega))
  simp (disch := omega) only [e_64, w_64_7, w_64_8, w_64_9, w_64_10, getK, putK, ialK, iasK, aalK, aasK, alnK, zgt_u, zgt_a, Option.toList_some, Option.toList_none, List.cons_append, List.nil_append, List.map_cons, List.map_nil, List.replicate, ite_true, ite_false, if_true, if_false, List.getElem?_cons_zero, List.getElem?_cons_succ, List.set_cons_zero, List.set_cons_succ, true_and, and_true, beq_self_eq_true, zite, Int.toNat_natCast, if_pos, if_neg, zwr_id, zand, k01, zrc_a c1, c1]
  refine s_init0 (by rw [zgt_a, if_pos c1.symm]) (by show k1.1 + 1 = _; omega) (fun h2 j3 j4 => ?_)
  have j4 : frA k1 h2 5 13 449 := frA_tr (frA_a (by omega)) j4 (Nat.le_refl _)
  have b2 : h2.1 = 18 := by rw [j4.1, c1]
  have h02 : zgt h2 0 = _ := (j4.2.2 0 (by omega)).trans k01
  have t2 := rTx_eq t1 (fun k u v => j4.2.2 k (by omega))
  simp (disch := omega) only [e_64, w_64_11, getK, putK, ialK, iasK, aalK, aasK, alnK, zgt_u, zgt_a, Option.toList_some, Option.toList_none, List.cons_append, List.nil_append, List.map_cons, List.map_nil, List.replicate, ite_true, ite_false, if_true, if_false, List.getElem?_cons_zero, List.getElem?_cons_succ, List.set_cons_zero, List.set_cons_succ, true_and, and_true, beq_self_eq_true, zite, Int.toNat_natCast, if_pos, if_neg, zwr_id, zand, h02]
  generalize hg2 : zuH h2 0 _ = k2
  have f2 : fr h2 k2 0 1 := by rw [← hg2]; exact fr_u fr_rf (Nat.le_refl _) (by omega)
  have c2 : k2.1 = 18 := f2.1.trans b2
  have k02 : zgt k2 0 = .inl (5, [.inr (.inl (some 1)), .inr (.inl (some 5)), .inr (.inl x2), .inr (.inl x3), .inr (.inl x4), .inl x5]) := by
    rw [← hg2]
    simp (disch := omega) only [zgt_u, zgt_a, if_pos, if_neg, if_true, if_false, ite_true, ite_false]
  have t3 := rTx_eq t2 (fun k u v => f2.2.2 k (by omega))
  have d3 := rDt_eq j3 (fun k u v => f2.2.2 k (by omega))
  simp (disch := omega) only [e_64, w_64_12, w_64_13, w_64_14, w_64_15, getK, putK, ialK, iasK, aalK, aasK, alnK, zgt_u, zgt_a, Option.toList_some, Option.toList_none, List.cons_append, List.nil_append, List.map_cons, List.map_nil, List.replicate, ite_true, ite_false, if_true, if_false, List.getElem?_cons_zero, List.getElem?_cons_succ, List.set_cons_zero, List.set_cons_succ, true_and, and_true, beq_self_eq_true, zite, Int.toNat_natCast, if_pos, if_neg, zwr_id, zand, k02, zrc_a c2, c2]
  refine s_init1 (by rw [zgt_a, if_pos c2.symm]) (by show k2.1 + 1 = _; omega) (fun h3 j5 j6 => ?_)
  have j6 : frA k2 h3 18 2 11 := frA_tr (frA_a (by omega)) j6 (Nat.le_refl _)
  have b3 : h3.1 = 20 := by rw [j6.1, c2]
  have h03 : zgt h3 0 = _ := (j6.2.2 0 (by omega)).trans k02
  have t4 := rTx_eq t3 (fun k u v => j6.2.2 k (by omega))
  have d4 := rDt_eq d3 (fun k u v => j6.2.2 k (by omega))
  simp (disch := omega) only [e_64, w_64_16, getK, putK, ialK, iasK, aalK, aasK, alnK, zgt_u, zgt_a, Option.toList_some, Option.toList_none, List.cons_append, List.nil_append, List.map_cons, List.map_nil, List.replicate, ite_true, ite_false, if_true, if_false, List.getElem?_cons_zero, List.getElem?_cons_succ, List.set_cons_zero, List.set_cons_succ, true_and, and_true, beq_self_eq_true, zite, Int.toNat_natCast, if_pos, if_neg, zwr_id, zand, h03]
  generalize hg3 : zuH h3 0 _ = k3
  have f3 : fr h3 k3 0 1 := by rw [← hg3]; exact fr_u fr_rf (Nat.le_refl _) (by omega)
  have c3 : k3.1 = 20 := f3.1.trans b3
  have k03 : zgt k3 0 = .inl (5, [.inr (.inl (some 1)), .inr (.inl (some 5)), .inr (.inl (some 18)), .inr (.inl x3), .inr (.inl x4), .inl x5]) := by
    rw [← hg3]
    simp (disch := omega) only [zgt_u, zgt_a, if_pos, if_neg, if_true, if_false, ite_true, ite_false]
  have t5 := rTx_eq t4 (fun k u v => f3.2.2 k (by omega))
  have d5 := rDt_eq d4 (fun k u v => f3.2.2 k (by omega))
  have q5 : rHi k3 18 0 0 (fun _ => none) := ⟨(f3.2.2 18 (by omega)).trans j5.1, (f3.2.2 19 (by omega)).trans j5.2⟩
  simp (disch := omega) only [e_64, w_64_17, w_64_18, w_64_19, getK, putK, ialK, iasK, aalK, aasK, alnK, zgt_u, zgt_a, Option.toList_some, Option.toList_none, List.cons_append, List.nil_append, List.map_cons, List.map_nil, List.replicate, ite_true, ite_false, if_true, if_false, List.getElem?_cons_zero, List.getElem?_cons_succ, List.set_cons_zero, List.set_cons_succ, true_and, and_true, beq_self_eq_true, zite, Int.toNat_natCast, if_pos, if_neg, zwr_id, zand, k03, c3, zaH_1, Int.reduceToNat]
  generalize hg4 : zaH k3 _ _ = h4
  have f4 : frA k3 h4 20 1 2 := by rw [← hg4]; exact frA_a (by omega)
  have b4 : h4.1 = 21 := by rw [f4.1, c3]
  have h04 : zgt h4 0 = _ := (f4.2.2 0 (by omega)).trans k03
  have a4 : zgt h4 20 = .inr (.inr (2, fun _ => none)) := by
    rw [← hg4, zgt_a, if_pos c3.symm]
  have t6 := rTx_eq t5 (fun k u v => f4.2.2 k (by omega))
  have d6 := rDt_eq d5 (fun k u v => f4.2.2 k (by omega))
  have q6 : rHi h4 18 0 0 (fun _ => none) := ⟨(f4.2.2 18 (by omega)).trans q5.1, (f4.2.2 19 (by omega)).trans q5.2⟩
  simp (disch := omega) only [e_64, w_64_20, getK, putK, ialK, iasK, aalK, aasK, alnK, zgt_u, zgt_a, Option.toList_some, Option.toList_none, List.cons_append, List.nil_append, List.map_cons, List.map_nil, List.replicate, ite_true, ite_false, if_true, if_false, List.getElem?_cons_zero, List.getElem?_cons_succ, List.set_cons_zero, List.set_cons_succ, true_and, and_true, beq_self_eq_true, zite, Int.toNat_natCast, if_pos, if_neg, zwr_id, zand, h04]
  generalize hg5 : zuH h4 0 _ = k4
  have f5 : fr h4 k4 0 1 := by rw [← hg5]; exact fr_u fr_rf (Nat.le_refl _) (by omega)
  have c4 : k4.1 = 21 := f5.1.trans b4
  have k04 : zgt k4 0 = .inl (5, [.inr (.inl (some 1)), .inr (.inl (some 5)), .inr (.inl (some 18)), .inr (.inl (some 20)), .inr (.inl x4), .inl x5]) := by
    rw [← hg5]
    simp (disch := omega) only [zgt_u, zgt_a, if_pos, if_neg, if_true, if_false, ite_true, ite_false]
  have t7 := rTx_eq t6 (fun k u v => f5.2.2 k (by omega))
  have d7 := rDt_eq d6 (fun k u v => f5.2.2 k (by omega))
  have q7 : rHi k4 18 0 0 (fun _ => none) := ⟨(f5.2.2 18 (by omega)).trans q6.1, (f5.2.2 19 (by omega)).trans q6.2⟩
  have a5 : zgt k4 20 = _ := (f5.2.2 20 (by omega)).trans a4
  simp (disch := omega) only [e_64, w_64_21, w_64_22, w_64_23, w_64_24, getK, putK, ialK, iasK, aalK, aasK, alnK, zgt_u, zgt_a, Option.toList_some, Option.toList_none, List.cons_append, List.nil_append, List.map_cons, List.map_nil, List.replicate, ite_true, ite_false, if_true, if_false, List.getElem?_cons_zero, List.getElem?_cons_succ, List.set_cons_zero, List.set_cons_succ, true_and, and_true, beq_self_eq_true, zite, Int.toNat_natCast, if_pos, if_neg, zwr_id, zand, k04, zrc_a c4, c4]
  refine s_init3 (by rw [zgt_a, if_pos c4.symm]) (by show k4.1 + 1 = _; omega) (fun h5 j7 j8 => ?_)
  have j8 : frA k4 h5 21 3 5754 := frA_tr (frA_a (by omega)) j8 (Nat.le_refl _)
  have h05 : zgt h5 0 = _ := (j8.2.2 0 (by omega)).trans k04
  simp (disch := omega) only [e_64, w_64_25, w_64_26, w_64_27, w_64_28, w_64_29, getK, putK, ialK, iasK, aalK, aasK, alnK, zgt_u, zgt_a, Option.toList_some, Option.toList_none, List.cons_append, List.nil_append, List.map_cons, List.map_nil, List.replicate, ite_true, ite_false, if_true, if_false, List.getElem?_cons_zero, List.getElem?_cons_succ, List.set_cons_zero, List.set_cons_succ, true_and, and_true, beq_self_eq_true, zite, Int.toNat_natCast, if_pos, if_neg, zwr_id, zand, h05]
  generalize hg6 : zuH _ 0 _ = k5
  have f6 : fr h5 k5 0 1 := by rw [← hg6]; exact fr_u (fr_u fr_rf (Nat.le_refl _) (by omega)) (Nat.le_refl _) (by omega)
  refine hQ k5 ?_ (rTx_eq t7 (fun k u v => ?_)) (rDt_eq d7 (fun k u v => ?_)) ⟨?_, ?_⟩ ?_ (rNw_eq ⟨_, _, _, j7, fun _ => Int.le_refl _⟩ (fun k u v => f6.2.2 k (by omega))) ?_ ?_
  · rw [← hg6]
    simp (disch := omega) only [zgt_u, zgt_a, if_pos, if_neg, if_true, if_false, ite_true, ite_false]
  · rw [f6.2.2 k (by omega), j8.2.2 k (by omega)]
  · rw [f6.2.2 k (by omega), j8.2.2 k (by omega)]
  · rw [f6.2.2 _ (by omega), j8.2.2 _ (by omega)]; exact q7.1
  · rw [f6.2.2 _ (by omega), j8.2.2 _ (by omega)]; exact q7.2
  · rw [f6.2.2 _ (by omega), j8.2.2 _ (by omega)]; exact a5
  · rw [f6.1, j8.1, c4]
  · rw [f6.2.1, j8.2.1, f5.2.1, f4.2.1, f3.2.1, j6.2.1, f2.2.1, j4.2.1, f1.2.1, j2.2.1]; omega
end
