/-! THINGS MADE -/
/-- m cells of s slots more, the cells below b as they were -/
def frA (h h' : zH) (b m s : Nat) : Prop := h'.1 = h.1 + m ∧ h'.2.1 = h.2.1 + s ∧ ∀ k, k < b → zgt h' k = zgt h k
theorem frA_tr {h h1 h2 : zH} {b b2 m m2 s s2 : Nat} (a : frA h h1 b m s) (c : frA h1 h2 b2 m2 s2) (hb : b ≤ b2) : frA h h2 b (m + m2) (s + s2) := ⟨by rw [c.1, a.1]; omega, by rw [c.2.1, a.2.1]; omega, fun k hk => (c.2.2 k (by omega)).trans (a.2.2 k hk)⟩
theorem frA_of {h h' : zH} {b n : Nat} (a : fr h h' b n) : frA h h' b 0 0 := ⟨a.1, a.2.1, fun k hk => a.2.2 k (Or.inl hk)⟩
theorem rIt_frA {h h' : zH} {b b2 m s : Nat} {L : List zI} (hI : rIt h b L) (hf : frA h h' b2 m s) (hd : b + 4 ≤ b2) : rIt h' b L := by
  obtain ⟨G, C, W, h0, h1, h2, h3, hr⟩ := hI
  refine ⟨G, C, W, ?_, ?_, ?_, ?_, hr⟩
  · rw [hf.2.2 _ (by omega)]; exact h0
  · rw [hf.2.2 _ (by omega)]; exact h1
  · rw [hf.2.2 _ (by omega)]; exact h2
  · rw [hf.2.2 _ (by omega)]; exact h3
theorem rFa_frA {h h' : zH} {b b2 m s : Nat} {M : List zI} (hI : rFa h b M) (hf : frA h h' b2 m s) (hd : b + 4 ≤ b2) : rFa h' b M := by
  obtain ⟨L, a1, a2, a3⟩ := hI
  exact ⟨L, rIt_frA a1 hf hd, a2, a3⟩
theorem rDt_frA {h h' : zH} {b b2 m s : Nat} {S : zDt} (hI : rDt h b S) (hf : frA h h' b2 m s) (hd : b + 13 ≤ b2) : rDt h' b S :=
  ⟨by rw [hf.2.2 _ (by omega)]; exact hI.1, rIt_frA hI.2.1 hf (by omega), rFa_frA hI.2.2.1 hf (by omega), rFa_frA hI.2.2.2 hf (by omega)⟩
def zD0 : zDt := ([], [], [], 0, 0)
theorem zD0_ok : okDt zD0 := ⟨fun x hx => (by cases hx), fun x hx => (by cases hx), fun x hx => (by cases hx), ⟨fun x hx => (by cases hx), List.Pairwise.nil⟩, by decide, by decide, by decide, gOK_nil, gOK_nil, inR_0, inR_0⟩
theorem zrc_a {h : zH} {k n c : Nat} {fs as : List zV} (hk : h.1 = k) : zrecv (zaH h n (.inl (c, fs))) c (.inr (.inl (some k)) :: as) = true := zrc (fs := fs) (by rw [zgt_a, if_pos hk.symm])
theorem frA_a {h : zH} {b n : Nat} {c : zC} (hb : b ≤ h.1) : frA h (zaH h n c) b 1 n := ⟨rfl, rfl, fun k hk => by rw [zgt_a, if_neg (by omega)]⟩
theorem frA_u {h h' : zH} {b m s k : Nat} {c : zC} (a : frA h h' b m s) (hk : b ≤ k) : frA h (zuH h' k c) b m s := ⟨a.1, a.2.1, fun j hj => by rw [zgt_u, if_neg (by omega)]; exact a.2.2 j hj⟩
theorem frA_rf {h : zH} {b : Nat} : frA h h b 0 0 := ⟨rfl, rfl, fun _ _ => rfl⟩
theorem frA_wd {h h' : zH} {b b2 m s : Nat} (a : frA h h' b m s) (hb : b2 ≤ b) : frA h h' b2 m s := ⟨a.1, a.2.1, fun k hk => a.2.2 k (by omega)⟩
section
variable {sc : Nat × (Int → Int)} {h : zH} {Q : Option zV → zH → Prop} {b : Nat}
theorem s_init2 {x0 x1 x2 : Option Nat} {x3 : Int} (h0 : zgt h b = .inl (2, [.inr (.inl x0), .inr (.inl x1), .inr (.inl x2), .inl x3])) (hb : h.1 = b + 1) (hQ : ∀ h', rIt h' b [] → frA h h' b 3 144 → Q none h') : zca sc 14 [.inr (.inl (some b))] h Q := by
  simp (disch := omega) only [e_14, w_14_0, w_14_1, w_14_2, w_14_3, w_14_4, w_14_5, w_14_6, w_14_7, w_14_8, w_14_9, w_14_10, w_14_11, w_14_12, w_14_13, w_14_14, w_14_15, w_14_16, w_14_17, getK, putK, ialK, iasK, aalK, aasK, alnK, zgt_u, zgt_a, Option.toList_some, Option.toList_none, List.cons_append, List.nil_append, List.map_cons, List.map_nil, List.replicate, ite_true, ite_false, if_true, if_false, List.getElem?_cons_zero, List.getElem?_cons_succ, List.set_cons_zero, List.set_cons_succ, true_and, and_true, beq_self_eq_true, zite, Int.toNat_natCast, if_pos, if_neg, zwr_id, zand, h0, hb, zaH_1, zuH_1, Nat.add_assoc, Nat.reduceAdd, Int.reduceToNat, Nat.reduceEqDiff, Nat.add_left_cancel_iff, Nat.left_eq_add, Nat.add_eq_left]
  refine hQ _ ⟨fun _ => 0, fun _ => 0, fun _ => 0, ?_, ?_, ?_, ?_, trivial⟩ ⟨?_, ?_, fun k hk => ?_⟩
  · simp (disch := omega) only [zgt_u, zgt_a, if_pos, if_neg, if_true, if_false, hb, zaH_1, zuH_1]
    rfl
  · simp (disch := omega) only [zgt_u, zgt_a, if_pos, if_neg, if_true, if_false, hb, zaH_1, zuH_1]
  · simp (disch := omega) only [zgt_u, zgt_a, if_pos, if_neg, if_true, if_false, hb, zaH_1, zuH_1]
  · simp (disch := omega) only [zgt_u, zgt_a, if_pos, if_neg, if_true, if_false, hb, zaH_1, zuH_1]
  · simp only [zaH_1, zuH_1]
  · simp only [zaH_2, zuH_2]
  · simp (disch := omega) only [zgt_u, zgt_a, if_pos, if_neg, if_true, if_false, hb, zaH_1, zuH_1]
theorem s_init0 {x0 x1 x2 : Option Nat} {x3 x4 : Int} (h0 : zgt h b = .inl (0, [.inr (.inl x0), .inr (.inl x1), .inr (.inl x2), .inl x3, .inl x4])) (hb : h.1 = b + 1) (hQ : ∀ h', rDt h' b zD0 → frA h h' b 12 444 → Q none h') : zca sc 0 [.inr (.inl (some b))] h Q := by
  simp (disch := omega) only [e_0, w_0_0, w_0_1, w_0_2, w_0_3, w_0_4, w_0_5, w_0_6, w_0_7, w_0_8, w_0_9, w_0_10, w_0_11, w_0_12, w_0_13, w_0_14, w_0_15, w_0_16, w_0_17, w_0_18, w_0_19, w_0_20, w_0_21, w_0_22, w_0_23, getK, putK, ialK, iasK, aalK, aasK, alnK, zgt_u, zgt_a, Option.toList_some, Option.toList_none, List.cons_append, List.nil_append, List.map_cons, List.map_nil, List.replicate, ite_true, ite_false, if_true, if_false, List.getElem?_cons_zero, List.getElem?_cons_succ, List.set_cons_zero, List.set_cons_succ, true_and, and_true, beq_self_eq_true, zite, Int.toNat_natCast, if_pos, if_neg, zwr_id, zand, zrc_a hb, hb]
  refine s_init2 (by rw [zgt_a, if_pos hb.symm]) (by show h.1 + 1 = b + 1 + 1; omega) (fun h1 j1 j2 => ?_)
  have j2 : frA h h1 (b + 1) 4 148 := frA_tr (frA_a (by omega)) j2 (Nat.le_refl _)
  have b1 : h1.1 = b + 5 := by rw [j2.1]; omega
  have h01 : zgt h1 b = _ := (j2.2.2 b (by omega)).trans h0
  simp (disch := omega) only [e_0, w_0_0, w_0_1, w_0_2, w_0_3, w_0_4, w_0_5, w_0_6, w_0_7, w_0_8, w_0_9, w_0_10, w_0_11, w_0_12, w_0_13, w_0_14, w_0_15, w_0_16, w_0_17, w_0_18, w_0_19, w_0_20, w_0_21, w_0_22, w_0_23, getK, putK, ialK, iasK, aalK, aasK, alnK, zgt_u, zgt_a, Option.toList_some, Option.toList_none, List.cons_append, List.nil_append, List.map_cons, List.map_nil, List.replicate, ite_true, ite_false, if_true, if_false, List.getElem?_cons_zero, List.getElem?_cons_succ, List.set_cons_zero, List.set_cons_succ, true_and, and_true, beq_self_eq_true, zite, Int.toNat_natCast, if_pos, if_neg, zwr_id, zand, h01]
  generalize hg2 : zuH h1 b _ = h2
  have hf2 : fr h1 h2 b 1 := by rw [← hg2]; exact fr_u fr_rf (Nat.le_refl _) (by omega)
  have b2 : h2.1 = b + 5 := hf2.1.trans b1
  have h02 : zgt h2 b = .inl (0, [.inr (.inl (some (b + 1))), .inr (.inl x1), .inr (.inl x2), .inl x3, .inl x4]) := by
    rw [← hg2]
    simp (disch := omega) only [zgt_u, zgt_a, if_pos, if_neg, if_true, if_false, ite_true, ite_false]
  have j12 := rIt_fr j1 hf2 (by omega)
  simp (disch := omega) only [e_0, w_0_0, w_0_1, w_0_2, w_0_3, w_0_4, w_0_5, w_0_6, w_0_7, w_0_8, w_0_9, w_0_10, w_0_11, w_0_12, w_0_13, w_0_14, w_0_15, w_0_16, w_0_17, w_0_18, w_0_19, w_0_20, w_0_21, w_0_22, w_0_23, getK, putK, ialK, iasK, aalK, aasK, alnK, zgt_u, zgt_a, Option.toList_some, Option.toList_none, List.cons_append, List.nil_append, List.map_cons, List.map_nil, List.replicate, ite_true, ite_false, if_true, if_false, List.getElem?_cons_zero, List.getElem?_cons_succ, List.set_cons_zero, List.set_cons_succ, true_and, and_true, beq_self_eq_true, zite, Int.toNat_natCast, if_pos, if_neg, zwr_id, zand, zrc_a b2, b2]
  refine s_init2 (by rw [zgt_a, if_pos b2.symm]) (by show h2.1 + 1 = b + 5 + 1; omega) (fun h3 k1 k2 => ?_)
  have k2 : frA h2 h3 (b + 5) 4 148 := frA_tr (frA_a (by omega)) k2 (Nat.le_refl _)
  have b3 : h3.1 = b + 9 := by rw [k2.1]; omega
  have h03 : zgt h3 b = _ := (k2.2.2 b (by omega)).trans h02
  have j13 := rIt_frA j12 k2 (by omega)
  simp (disch := omega) only [e_0, w_0_0, w_0_1, w_0_2, w_0_3, w_0_4, w_0_5, w_0_6, w_0_7, w_0_8, w_0_9, w_0_10, w_0_11, w_0_12, w_0_13, w_0_14, w_0_15, w_0_16, w_0_17, w_0_18, w_0_19, w_0_20, w_0_21, w_0_22, w_0_23, getK, putK, ialK, iasK, aalK, aasK, alnK, zgt_u, zgt_a, Option.toList_some, Option.toList_none, List.cons_append, List.nil_append, List.map_cons, List.map_nil, List.replicate, ite_true, ite_false, if_true, if_false, List.getElem?_cons_zero, List.getElem?_cons_succ, List.set_cons_zero, List.set_cons_succ, true_and, and_true, beq_self_eq_true, zite, Int.toNat_natCast, if_pos, if_neg, zwr_id, zand, h03]
  generalize hg4 : zuH h3 b _ = h4
  have hf4 : fr h3 h4 b 1 := by rw [← hg4]; exact fr_u fr_rf (Nat.le_refl _) (by omega)
  have b4 : h4.1 = b + 9 := hf4.1.trans b3
  have h04 : zgt h4 b = .inl (0, [.inr (.inl (some (b + 1))), .inr (.inl (some (b + 5))), .inr (.inl x2), .inl x3, .inl x4]) := by
    rw [← hg4]
    simp (disch := omega) only [zgt_u, zgt_a, if_pos, if_neg, if_true, if_false, ite_true, ite_false]
  have j14 := rIt_fr j13 hf4 (by omega)
  have k14 := rIt_fr k1 hf4 (by omega)
  simp (disch := omega) only [e_0, w_0_0, w_0_1, w_0_2, w_0_3, w_0_4, w_0_5, w_0_6, w_0_7, w_0_8, w_0_9, w_0_10, w_0_11, w_0_12, w_0_13, w_0_14, w_0_15, w_0_16, w_0_17, w_0_18, w_0_19, w_0_20, w_0_21, w_0_22, w_0_23, getK, putK, ialK, iasK, aalK, aasK, alnK, zgt_u, zgt_a, Option.toList_some, Option.toList_none, List.cons_append, List.nil_append, List.map_cons, List.map_nil, List.replicate, ite_true, ite_false, if_true, if_false, List.getElem?_cons_zero, List.getElem?_cons_succ, List.set_cons_zero, List.set_cons_succ, true_and, and_true, beq_self_eq_true, zite, Int.toNat_natCast, if_pos, if_neg, zwr_id, zand, zrc_a b4, b4]
  refine s_init2 (by rw [zgt_a, if_pos b4.symm]) (by show h4.1 + 1 = b + 9 + 1; omega) (fun h5 l1 l2 => ?_)
  have l2 : frA h4 h5 (b + 9) 4 148 := frA_tr (frA_a (by omega)) l2 (Nat.le_refl _)
  have h05 : zgt h5 b = _ := (l2.2.2 b (by omega)).trans h04
  have j15 := rIt_frA j14 l2 (by omega)
  have k15 := rIt_frA k14 l2 (by omega)
  simp (disch := omega) only [e_0, w_0_0, w_0_1, w_0_2, w_0_3, w_0_4, w_0_5, w_0_6, w_0_7, w_0_8, w_0_9, w_0_10, w_0_11, w_0_12, w_0_13, w_0_14, w_0_15, w_0_16, w_0_17, w_0_18, w_0_19, w_0_20, w_0_21, w_0_22, w_0_23, getK, putK, ialK, iasK, aalK, aasK, alnK, zgt_u, zgt_a, Option.toList_some, Option.toList_none, List.cons_append, List.nil_append, List.map_cons, List.map_nil, List.replicate, ite_true, ite_false, if_true, if_false, List.getElem?_cons_zero, List.getElem?_cons_succ, List.set_cons_zero, List.set_cons_succ, true_and, and_true, beq_self_eq_true, zite, Int.toNat_natCast, if_pos, if_neg, zwr_id, zand, h05]
  generalize hg6 : zuH _ b _ = h6
  have hf6 : fr h5 h6 b 1 := by rw [← hg6]; exact fr_u (fr_u (fr_u fr_rf (Nat.le_refl _) (by omega)) (Nat.le_refl _) (by omega)) (Nat.le_refl _) (by omega)
  refine hQ h6 ⟨?_, rIt_fr j15 hf6 (by omega), ⟨[], rIt_fr k15 hf6 (by omega), List.Pairwise.nil, List.Perm.refl _⟩, ⟨[], rIt_fr l1 hf6 (by omega), List.Pairwise.nil, List.Perm.refl _⟩⟩ ?_
  · rw [← hg6]
    simp (disch := omega) only [zgt_u, zgt_a, if_pos, if_neg, if_true, if_false, ite_true, ite_false]
    rfl
  · exact frA_tr (frA_tr (frA_tr (frA_tr (frA_tr (frA_wd j2 (Nat.le_succ b)) (frA_of hf2) (Nat.le_refl _)) (frA_wd k2 (b2 := b) (by omega)) (Nat.le_refl _)) (frA_of hf4) (Nat.le_refl _)) (frA_wd l2 (b2 := b) (by omega)) (Nat.le_refl _)) (frA_of hf6) (Nat.le_refl _)
/-- the text's object -/
def rTx (h : zH) (b : Nat) (len : Int) (T : Int → Int) : Prop := zgt h b = .inl (4, [.inr (.inl (some (b + 1))), .inl len, .inr (.inl (some (b + 2))), .inr (.inl (some (b + 3)))]) ∧ zgt h (b + 1) = .inr (.inl (60, T)) ∧ (∃ f, zgt h (b + 2) = .inr (.inl (61, f))) ∧ ∃ f, zgt h (b + 3) = .inr (.inl (61, f))
theorem s_init4 {x0 x2 x3 : Option Nat} {x1 : Int} (h0 : zgt h b = .inl (4, [.inr (.inl x0), .inl x1, .inr (.inl x2), .inr (.inl x3)])) (hb : h.1 = b + 1) (hQ : ∀ h', rTx h' b 0 (fun _ => 0) → frA h h' b 3 182 → Q none h') : zca sc 42 [.inr (.inl (some b))] h Q := by
  simp (disch := omega) only [e_42, w_42_0, w_42_1, w_42_2, w_42_3, w_42_4, w_42_5, w_42_6, w_42_7, w_42_8, w_42_9, w_42_10, w_42_11, w_42_12, w_42_13, w_42_14, w_42_15, w_42_16, w_42_17, getK, putK, ialK, iasK, aalK, aasK, alnK, zgt_u, zgt_a, Option.toList_some, Option.toList_none, List.cons_append, List.nil_append, List.map_cons, List.map_nil, List.replicate, ite_true, ite_false, if_true, if_false, List.getElem?_cons_zero, List.getElem?_cons_succ, List.set_cons_zero, List.set_cons_succ, true_and, and_true, beq_self_eq_true, zite, Int.toNat_natCast, if_pos, if_neg, zwr_id, zand, h0, hb, zaH_1, zuH_1, Nat.add_assoc, Nat.reduceAdd, Int.reduceToNat, Nat.reduceEqDiff, Nat.add_left_cancel_iff, Nat.left_eq_add, Nat.add_eq_left]
  refine hQ _ ⟨?_, ?_, ⟨fun _ => 0, ?_⟩, ⟨fun _ => 0, ?_⟩⟩ ⟨?_, ?_, fun k hk => ?_⟩
  · simp (disch := omega) only [zgt_u, zgt_a, if_pos, if_neg, if_true, if_false, hb, zaH_1, zuH_1]
  · simp (disch := omega) only [zgt_u, zgt_a, if_pos, if_neg, if_true, if_false, hb, zaH_1, zuH_1]
  · simp (disch := omega) only [zgt_u, zgt_a, if_pos, if_neg, if_true, if_false, hb, zaH_1, zuH_1]
  · simp (disch := omega) only [zgt_u, zgt_a, if_pos, if_neg, if_true, if_false, hb, zaH_1, zuH_1]
  · simp only [zaH_1, zuH_1]
  · simp only [zaH_2, zuH_2]
  · simp (disch := omega) only [zgt_u, zgt_a, if_pos, if_neg, if_true, if_false, hb, zaH_1, zuH_1]
/-- the history's object and its row; the nodes' object and rows -/
def rHi (h : zH) (b : Nat) (nx sz : Int) (g : Int → Option Nat) : Prop := zgt h b = .inl (1, [.inr (.inl (some (b + 1))), .inl nx, .inl sz]) ∧ zgt h (b + 1) = .inr (.inr (8, g))
theorem s_init1 {x0 : Option Nat} {x1 x2 : Int} (h0 : zgt h b = .inl (1, [.inr (.inl x0), .inl x1, .inl x2])) (hb : h.1 = b + 1) (hQ : ∀ h', rHi h' b 0 0 (fun _ => none) → frA h h' b 1 8 → Q none h') : zca sc 10 [.inr (.inl (some b))] h Q := by
  simp (disch := omega) only [e_10, w_10_0, w_10_1, w_10_2, w_10_3, w_10_4, w_10_5, w_10_6, w_10_7, w_10_8, w_10_9, w_10_10, w_10_11, w_10_12, getK, putK, ialK, iasK, aalK, aasK, alnK, zgt_u, zgt_a, Option.toList_some, Option.toList_none, List.cons_append, List.nil_append, List.map_cons, List.map_nil, List.replicate, ite_true, ite_false, if_true, if_false, List.getElem?_cons_zero, List.getElem?_cons_succ, List.set_cons_zero, List.set_cons_succ, true_and, and_true, beq_self_eq_true, zite, Int.toNat_natCast, if_pos, if_neg, zwr_id, zand, h0, hb, zaH_1, zuH_1, Nat.add_assoc, Nat.reduceAdd, Int.reduceToNat, Nat.reduceEqDiff, Nat.add_left_cancel_iff, Nat.left_eq_add, Nat.add_eq_left]
  refine hQ _ ⟨?_, ?_⟩ ⟨?_, ?_, fun k hk => ?_⟩
  · simp (disch := omega) only [zgt_u, zgt_a, if_pos, if_neg, if_true, if_false, hb, zaH_1, zuH_1]
  · simp (disch := omega) only [zgt_u, zgt_a, if_pos, if_neg, if_true, if_false, hb, zaH_1, zuH_1]
  · simp only [zaH_1, zuH_1]
  · simp only [zaH_2, zuH_2]
  · simp (disch := omega) only [zgt_u, zgt_a, if_pos, if_neg, if_true, if_false, hb, zaH_1, zuH_1]
def rNo (h : zH) (b : Nat) (rd sz : Int) (R C : Int → Int) : Prop := zgt h b = .inl (3, [.inr (.inl (some (b + 1))), .inr (.inl (some (b + 2))), .inl rd, .inl sz]) ∧ zgt h (b + 1) = .inr (.inl (5461, R)) ∧ zgt h (b + 2) = .inr (.inl (289, C))
theorem s_init3 {x0 x1 : Option Nat} {x2 x3 : Int} (h0 : zgt h b = .inl (3, [.inr (.inl x0), .inr (.inl x1), .inl x2, .inl x3])) (hb : h.1 = b + 1) (hQ : ∀ h', rNo h' b 0 0 (fun _ => 0) (fun _ => 0) → frA h h' b 2 5750 → Q none h') : zca sc 33 [.inr (.inl (some b))] h Q := by
  simp (disch := omega) only [e_33, w_33_0, w_33_1, w_33_2, w_33_3, w_33_4, w_33_5, w_33_6, w_33_7, w_33_8, w_33_9, w_33_10, w_33_11, w_33_12, w_33_13, w_33_14, w_33_15, w_33_16, getK, putK, ialK, iasK, aalK, aasK, alnK, zgt_u, zgt_a, Option.toList_some, Option.toList_none, List.cons_append, List.nil_append, List.map_cons, List.map_nil, List.replicate, ite_true, ite_false, if_true, if_false, List.getElem?_cons_zero, List.getElem?_cons_succ, List.set_cons_zero, List.set_cons_succ, true_and, and_true, beq_self_eq_true, zite, Int.toNat_natCast, if_pos, if_neg, zwr_id, zand, h0, hb, zaH_1, zuH_1, Nat.add_assoc, Nat.reduceAdd, Int.reduceToNat, Nat.reduceEqDiff, Nat.add_left_cancel_iff, Nat.left_eq_add, Nat.add_eq_left]
  refine hQ _ ⟨?_, ?_, ?_⟩ ⟨?_, ?_, fun k hk => ?_⟩
  · simp (disch := omega) only [zgt_u, zgt_a, if_pos, if_neg, if_true, if_false, hb, zaH_1, zuH_1]
  · simp (disch := omega) only [zgt_u, zgt_a, if_pos, if_neg, if_true, if_false, hb, zaH_1, zuH_1]
  · simp (disch := omega) only [zgt_u, zgt_a, if_pos, if_neg, if_true, if_false, hb, zaH_1, zuH_1]
  · simp only [zaH_1, zuH_1]
  · simp only [zaH_2, zuH_2]
  · simp (disch := omega) only [zgt_u, zgt_a, if_pos, if_neg, if_true, if_false, hb, zaH_1, zuH_1]
end
