/-! LETTERS APPENDED -/
def apR (c : Int) : Nat → (Int → Int) → Int → (Int → Int)
  | 0, T, _ => T
  | j + 1, T, len => apR c j (zup T len (c / tp j % 10 - 1)) (len + 1)
theorem tp_le {c : Int} (m : Nat) : tp m ≤ c ↔ (m : Int) < nd c := by
  constructor
  · intro h; have := nd_ge m c h; omega
  · intro h
    rcases Int.lt_or_le c (tp m) with q | q
    · have := nd_lt m c q; omega
    · exact q
theorem tp_div (m : Nat) : tp (m + 1) / 10 = tp m := by show 10 * tp m / 10 = tp m; omega
theorem div_tp {c : Int} (m : Nat) (hc : 0 ≤ c) : c / 10 / tp m = c / tp (m + 1) := by
  show c / 10 / tp m = c / (10 * tp m)
  rw [Int.ediv_ediv_of_nonneg (by omega)]
theorem dg_at : ∀ (m : Nat) (c : Int), dg c = true → tp m ≤ c → 1 ≤ c / tp m % 10 ∧ c / tp m % 10 ≤ 4
  | 0, c, hd, h => by
    have h : (1 : Int) ≤ c := h
    rw [dg_p (by omega)] at hd
    simp only [Bool.and_eq_true, decide_eq_true_eq] at hd
    rw [show tp 0 = 1 from rfl, Int.ediv_one]
    exact hd.1
  | m + 1, c, hd, h => by
    have h0 := tp_pos m
    have h : 10 * tp m ≤ c := h
    rw [dg_p (by omega)] at hd
    simp only [Bool.and_eq_true, decide_eq_true_eq] at hd
    have := dg_at m (c / 10) hd.2 (by omega)
    rw [div_tp m (by omega)] at this
    exact this
theorem apR_out {c : Int} : ∀ (j : Nat) (T : Int → Int) (len k : Int), (k < len ∨ len + j ≤ k) → apR c j T len k = T k
  | 0, _, _, _, _ => rfl
  | j + 1, T, len, k, h => by
    unfold apR
    rw [apR_out j _ _ k (by omega), zup_n (by omega)]
theorem okT_ap {T : Int → Int} {c : Int} (hc : dg c = true) : ∀ (j : Nat) (T : Int → Int) (len : Int), okT T len → len + j ≤ 60 → (j : Int) ≤ nd c → okT (apR c j T len) (len + j)
  | 0, T, len, h, _, _ => by simpa [apR] using h
  | j + 1, T, len, h, h1, h2 => by
    unfold apR
    rw [show len + ((j + 1 : Nat) : Int) = len + 1 + j by omega]
    have hd := dg_at j c hc ((tp_le j).mpr (by omega))
    refine okT_ap (T := T) hc j _ _ ⟨by have := h.1; omega, by omega, fun i h3 h4 => ?_⟩ (by omega) (by omega)
    by_cases hi : i = len
    · rw [hi, zup_s]; omega
    · rw [zup_n hi]; exact h.2.2 i h3 (by omega)
def plc : Nat → Int
  | 0 => 0
  | m + 1 => tp m
theorem plc_div (m : Nat) : tp m / 10 = plc m := by
  cases m with
  | zero => rfl
  | succ m => exact tp_div m
section
variable {sc : Nat × (Int → Int)} {h : zH} {Q : Option zV → zH → Prop} {b : Nat} {len : Int} {T : Int → Int}
theorem lp_append {c : Int} (hc : wd c) : ∀ (m : Nat) (h : zH) (T : Int → Int) (len : Int), m ≤ 6 → rTx h b len T → 0 ≤ len → len + ((min m (nd c).toNat : Nat) : Int) ≤ 60 → (∀ h', rTx h' b (len + (min m (nd c).toNat : Nat)) (apR c (min m (nd c).toNat) T len) → fr h h' b 4 → Q none h') → zwp sc 45 2 [some (.inr (.inl (some b))), some (.inl c), some (.inl (plc m))] [] h Q := by
  intro m
  have hn := wd_nd hc
  have hp := wd_pos hc
  induction m with
  | zero =>
    intro h T len h6 hX h0 h60 hQ
    rw [Nat.zero_min] at hQ
    have := hQ h (by simpa [apR] using hX) fr_rf
    rw [w_45_2]
    unfold plc
    simp (disch := omega) only [e_45, w_45_0, w_45_1, w_45_3, w_45_4, w_45_5, w_45_6, w_45_7, w_45_8, w_45_9, w_45_10, w_45_11, w_45_12, w_45_13, w_45_14, w_45_15, w_45_16, w_45_17, w_45_18, w_45_19, w_45_20, w_45_21, w_45_22, w_45_23, w_45_24, w_45_25, w_45_26, w_45_27, w_45_28, w_45_29, w_45_30, w_45_31, w_45_32, w_45_33, w_45_34, getK, putK, ialK, iasK, aalK, aasK, alnK, zgt_u, zgt_a, Option.toList_some, Option.toList_none, List.cons_append, List.nil_append, List.map_cons, List.map_nil, List.replicate, ite_true, ite_false, if_true, if_false, List.getElem?_cons_zero, List.getElem?_cons_succ, List.set_cons_zero, List.set_cons_succ, true_and, and_true, beq_self_eq_true, zite, Int.toNat_natCast, if_pos, if_neg, zwr_id, zand]
    exact this
  | succ m ih =>
    intro h T len h6 hX h0 h60 hQ
    have ht := tp_pos m
    obtain ⟨y0, y1, ⟨f, y2⟩, ⟨g, y3⟩⟩ := id hX
    show zwp sc _ _ [_, _, some (.inl (tp m))] [] h Q
    rw [w_45_2]
    by_cases c1 : tp m ≤ c
    · have hm := (tp_le m).mp c1
      rw [show min (m + 1) (nd c).toNat = m + 1 by omega] at hQ h60
      have hd := dg_at m c hc.2.2 c1
      have hq : 0 ≤ c / tp m := Int.ediv_nonneg (by omega) (by omega)
      simp (disch := omega) only [e_45, w_45_0, w_45_1, w_45_3, w_45_4, w_45_5, w_45_6, w_45_7, w_45_8, w_45_9, w_45_10, w_45_11, w_45_12, w_45_13, w_45_14, w_45_15, w_45_16, w_45_17, w_45_18, w_45_19, w_45_20, w_45_21, w_45_22, w_45_23, w_45_24, w_45_25, w_45_26, w_45_27, w_45_28, w_45_29, w_45_30, w_45_31, w_45_32, w_45_33, w_45_34, getK, putK, ialK, iasK, aalK, aasK, alnK, zgt_u, zgt_a, Option.toList_some, Option.toList_none, List.cons_append, List.nil_append, List.map_cons, List.map_nil, List.replicate, ite_true, ite_false, if_true, if_false, List.getElem?_cons_zero, List.getElem?_cons_succ, List.set_cons_zero, List.set_cons_succ, true_and, and_true, beq_self_eq_true, zite, Int.toNat_natCast, if_pos, if_neg, zwr_id, zand, y0, y1, Nat.add_left_cancel_iff, Nat.reduceEqDiff, Nat.left_eq_add, Nat.add_eq_left, plc_div]
      generalize hh : zuH (zuH h (b + 1) _) b _ = h1
      have hX1 : rTx h1 b (len + 1) (zup T len (c / tp m % 10 - 1)) := by
        rw [← hh]
        refine ⟨?_, ?_, ⟨f, ?_⟩, ⟨g, ?_⟩⟩
        · simp (disch := omega) only [zgt_u, zgt_a, if_pos, if_neg, if_true, if_false, ite_true, ite_false]
        · simp (disch := omega) only [zgt_u, zgt_a, if_pos, if_neg, if_true, if_false, ite_true, ite_false]
        · simp (disch := omega) only [zgt_u, zgt_a, if_pos, if_neg, if_true, if_false, ite_true, ite_false]
          exact y2
        · simp (disch := omega) only [zgt_u, zgt_a, if_pos, if_neg, if_true, if_false, ite_true, ite_false]
          exact y3
      have hf1 : fr h h1 b 4 := by rw [← hh]; exact fr_u (fr_u fr_rf (by omega) (by omega)) (by omega) (by omega)
      have e : min m (nd c).toNat = m := by omega
      refine ih h1 _ (len + 1) (by omega) hX1 (by omega) (by rw [e]; omega) (fun h' a1 a2 => hQ h' ?_ (fr_tr hf1 a2))
      rw [e] at a1
      rw [show len + ((m + 1 : Nat) : Int) = len + 1 + m by omega]
      exact a1
    · have hm : ¬ (m : Int) < nd c := fun q => c1 ((tp_le m).mpr q)
      rw [show min (m + 1) (nd c).toNat = min m (nd c).toNat by omega] at hQ h60
      simp (disch := omega) only [e_45, w_45_0, w_45_1, w_45_3, w_45_4, w_45_5, w_45_6, w_45_7, w_45_8, w_45_9, w_45_10, w_45_11, w_45_12, w_45_13, w_45_14, w_45_15, w_45_16, w_45_17, w_45_18, w_45_19, w_45_20, w_45_21, w_45_22, w_45_23, w_45_24, w_45_25, w_45_26, w_45_27, w_45_28, w_45_29, w_45_30, w_45_31, w_45_32, w_45_33, w_45_34, getK, putK, ialK, iasK, aalK, aasK, alnK, zgt_u, zgt_a, Option.toList_some, Option.toList_none, List.cons_append, List.nil_append, List.map_cons, List.map_nil, List.replicate, ite_true, ite_false, if_true, if_false, List.getElem?_cons_zero, List.getElem?_cons_succ, List.set_cons_zero, List.set_cons_succ, true_and, and_true, beq_self_eq_true, zite, Int.toNat_natCast, if_pos, if_neg, zwr_id, zand, plc_div]
      exact ih h T len (by omega) hX h0 h60 hQ
theorem s_append {c : Int} (hX : rTx h b len T) (hT : okT T len) (hc : wd c) (h60 : len + nd c ≤ 60) (hQ : ∀ h', rTx h' b (len + nd c) (apR c (nd c).toNat T len) → fr h h' b 4 → Q none h') : zca sc 45 [.inr (.inl (some b)), .inl c] h Q := by
  have hn := wd_nd hc
  have e : min 6 (nd c).toNat = (nd c).toNat := by omega
  have e2 : (((nd c).toNat : Nat) : Int) = nd c := by omega
  simp (disch := omega) only [e_45, w_45_0, w_45_1, w_45_3, w_45_4, w_45_5, w_45_6, w_45_7, w_45_8, w_45_9, w_45_10, w_45_11, w_45_12, w_45_13, w_45_14, w_45_15, w_45_16, w_45_17, w_45_18, w_45_19, w_45_20, w_45_21, w_45_22, w_45_23, w_45_24, w_45_25, w_45_26, w_45_27, w_45_28, w_45_29, w_45_30, w_45_31, w_45_32, w_45_33, w_45_34, getK, putK, ialK, iasK, aalK, aasK, alnK, zgt_u, zgt_a, Option.toList_some, Option.toList_none, List.cons_append, List.nil_append, List.map_cons, List.map_nil, List.replicate, ite_true, ite_false, if_true, if_false, List.getElem?_cons_zero, List.getElem?_cons_succ, List.set_cons_zero, List.set_cons_succ, true_and, and_true, beq_self_eq_true, zite, Int.toNat_natCast, if_pos, if_neg, zwr_id, zand]
  have := lp_append (sc := sc) (Q := Q) hc 6 h T len (Nat.le_refl _) hX hT.1 (by rw [e]; omega) (fun h' a1 a2 => hQ h' (by rw [e, e2] at a1; exact a1) a2)
  exact this
end
