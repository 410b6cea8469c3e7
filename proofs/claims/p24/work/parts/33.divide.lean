/-! DIVISIONS; THE TEXT WRITTEN -/
def rTy (h : zH) (b : Nat) (len : Int) (T f g : Int → Int) : Prop := zgt h b = .inl (4, [.inr (.inl (some (b + 1))), .inl len, .inr (.inl (some (b + 2))), .inr (.inl (some (b + 3)))]) ∧ zgt h (b + 1) = .inr (.inl (60, T)) ∧ zgt h (b + 2) = .inr (.inl (61, f)) ∧ zgt h (b + 3) = .inr (.inl (61, g))
theorem rTy_x {h : zH} {b : Nat} {len : Int} {T f g : Int → Int} (hY : rTy h b len T f g) : rTx h b len T := ⟨hY.1, hY.2.1, ⟨f, hY.2.2.1⟩, ⟨g, hY.2.2.2⟩⟩
theorem mN_out {L : List zI} {T : Int → Int} {i : Int} (ho : okIs L) : ∀ (j n : Nat), i + 1 < n → mN L T i j n = []
  | 0, _, _ => rfl
  | j + 1, n, h => by
    unfold mN
    have : fn (enT T (i + 1) n) L = none := by
      rw [fn_none]
      intro x hx
      have := wd_pos (ho x hx).2.2.1
      unfold enT
      rw [if_pos h]
      omega
    rw [this]
    exact mN_out ho j (n + 1) (by omega)
theorem agr_u {f F : Int → Int} {r x : Int} (h : agr f F r) : agr (zup f r x) (zup F r x) r := by
  intro k h0 h1
  by_cases hk : k = r
  · rw [hk, zup_s, zup_s]
  · rw [zup_n hk, zup_n hk]; exact h k h0 h1
section
variable {sc : Nat × (Int → Int)} {h : zH} {Q : Option zV → zH → Prop} {b lb : Nat} {L : List zI} {len : Int} {T f g : Int → Int}
theorem s_offer {r w m : Int} (hY : rTy h b len T f g) (h0 : 0 ≤ r) (h1 : r ≤ 60) (hQ : ∀ h' f' g', rTy h' b len T f' g' → (f', g') = (if f r < w ∨ (w = f r ∧ m < g r) then (zup f r w, zup g r m) else (f, g)) → fr h h' b 4 → Q none h') : zca sc 61 [.inr (.inl (some b)), .inl r, .inl w, .inl m] h Q := by
  obtain ⟨y0, y1, y2, y3⟩ := hY
  have yes : (f r < w ∨ (w = f r ∧ m < g r)) → Q none (zuH (zuH h (b + 2) (.inr (.inl (61, zup f r w)))) (b + 3) (.inr (.inl (61, zup g r m)))) := by
    intro c
    refine hQ _ _ _ ⟨?_, ?_, ?_, ?_⟩ (if_pos c).symm (fr_u (fr_u fr_rf (by omega) (by omega)) (by omega) (by omega))
    · simp (disch := omega) only [zgt_u, zgt_a, if_pos, if_neg, if_true, if_false, ite_true, ite_false]
      exact y0
    · simp (disch := omega) only [zgt_u, zgt_a, if_pos, if_neg, if_true, if_false, ite_true, ite_false]
      exact y1
    · simp (disch := omega) only [zgt_u, zgt_a, if_pos, if_neg, if_true, if_false, ite_true, ite_false]
    · simp (disch := omega) only [zgt_u, zgt_a, if_pos, if_neg, if_true, if_false, ite_true, ite_false]
  have no : ¬ (f r < w ∨ (w = f r ∧ m < g r)) → Q none h := fun c => hQ h f g ⟨y0, y1, y2, y3⟩ (if_neg c).symm fr_rf
  by_cases c1 : f r < w
  · by_cases c2 : w = f r
    · omega
    · simp (disch := omega) only [e_61, w_61_0, w_61_1, w_61_2, w_61_3, w_61_4, w_61_5, w_61_6, w_61_7, w_61_8, w_61_9, w_61_10, w_61_11, w_61_12, w_61_13, w_61_14, w_61_15, w_61_16, w_61_17, w_61_18, w_61_19, w_61_20, w_61_21, w_61_22, w_61_23, w_61_24, w_61_25, w_61_26, w_61_27, w_61_28, w_61_29, w_61_30, w_61_31, w_61_32, w_61_33, w_61_34, w_61_35, w_61_36, w_61_37, w_61_38, w_61_39, w_61_40, getK, putK, ialK, iasK, aalK, aasK, alnK, zgt_u, zgt_a, Option.toList_some, Option.toList_none, List.cons_append, List.nil_append, List.map_cons, List.map_nil, List.replicate, ite_true, ite_false, if_true, if_false, List.getElem?_cons_zero, List.getElem?_cons_succ, List.set_cons_zero, List.set_cons_succ, true_and, and_true, beq_self_eq_true, zite, Int.toNat_natCast, if_pos, if_neg, zwr_id, zand, y0, y1, y2, y3, Nat.add_left_cancel_iff, Nat.reduceEqDiff, Nat.left_eq_add, Nat.add_eq_left, ne_eq, not_true_eq_false, not_false_eq_true, Int.reduceEq]
      exact yes (Or.inl c1)
  · by_cases c2 : w = f r
    · by_cases c3 : m < g r
      · simp (disch := omega) only [e_61, w_61_0, w_61_1, w_61_2, w_61_3, w_61_4, w_61_5, w_61_6, w_61_7, w_61_8, w_61_9, w_61_10, w_61_11, w_61_12, w_61_13, w_61_14, w_61_15, w_61_16, w_61_17, w_61_18, w_61_19, w_61_20, w_61_21, w_61_22, w_61_23, w_61_24, w_61_25, w_61_26, w_61_27, w_61_28, w_61_29, w_61_30, w_61_31, w_61_32, w_61_33, w_61_34, w_61_35, w_61_36, w_61_37, w_61_38, w_61_39, w_61_40, getK, putK, ialK, iasK, aalK, aasK, alnK, zgt_u, zgt_a, Option.toList_some, Option.toList_none, List.cons_append, List.nil_append, List.map_cons, List.map_nil, List.replicate, ite_true, ite_false, if_true, if_false, List.getElem?_cons_zero, List.getElem?_cons_succ, List.set_cons_zero, List.set_cons_succ, true_and, and_true, beq_self_eq_true, zite, Int.toNat_natCast, if_pos, if_neg, zwr_id, zand, y0, y1, y2, y3, Nat.add_left_cancel_iff, Nat.reduceEqDiff, Nat.left_eq_add, Nat.add_eq_left, ne_eq, not_true_eq_false, not_false_eq_true, Int.reduceEq]
        exact yes (Or.inr ⟨c2, c3⟩)
      · simp (disch := omega) only [e_61, w_61_0, w_61_1, w_61_2, w_61_3, w_61_4, w_61_5, w_61_6, w_61_7, w_61_8, w_61_9, w_61_10, w_61_11, w_61_12, w_61_13, w_61_14, w_61_15, w_61_16, w_61_17, w_61_18, w_61_19, w_61_20, w_61_21, w_61_22, w_61_23, w_61_24, w_61_25, w_61_26, w_61_27, w_61_28, w_61_29, w_61_30, w_61_31, w_61_32, w_61_33, w_61_34, w_61_35, w_61_36, w_61_37, w_61_38, w_61_39, w_61_40, getK, putK, ialK, iasK, aalK, aasK, alnK, zgt_u, zgt_a, Option.toList_some, Option.toList_none, List.cons_append, List.nil_append, List.map_cons, List.map_nil, List.replicate, ite_true, ite_false, if_true, if_false, List.getElem?_cons_zero, List.getElem?_cons_succ, List.set_cons_zero, List.set_cons_succ, true_and, and_true, beq_self_eq_true, zite, Int.toNat_natCast, if_pos, if_neg, zwr_id, zand, y0, y1, y2, y3, Nat.add_left_cancel_iff, Nat.reduceEqDiff, Nat.left_eq_add, Nat.add_eq_left, ne_eq, not_true_eq_false, not_false_eq_true, Int.reduceEq]
        exact no (by omega)
    · simp (disch := omega) only [e_61, w_61_0, w_61_1, w_61_2, w_61_3, w_61_4, w_61_5, w_61_6, w_61_7, w_61_8, w_61_9, w_61_10, w_61_11, w_61_12, w_61_13, w_61_14, w_61_15, w_61_16, w_61_17, w_61_18, w_61_19, w_61_20, w_61_21, w_61_22, w_61_23, w_61_24, w_61_25, w_61_26, w_61_27, w_61_28, w_61_29, w_61_30, w_61_31, w_61_32, w_61_33, w_61_34, w_61_35, w_61_36, w_61_37, w_61_38, w_61_39, w_61_40, getK, putK, ialK, iasK, aalK, aasK, alnK, zgt_u, zgt_a, Option.toList_some, Option.toList_none, List.cons_append, List.nil_append, List.map_cons, List.map_nil, List.replicate, ite_true, ite_false, if_true, if_false, List.getElem?_cons_zero, List.getElem?_cons_succ, List.set_cons_zero, List.set_cons_succ, true_and, and_true, beq_self_eq_true, zite, Int.toNat_natCast, if_pos, if_neg, zwr_id, zand, y0, y1, y2, y3, Nat.add_left_cancel_iff, Nat.reduceEqDiff, Nat.left_eq_add, Nat.add_eq_left, ne_eq, not_true_eq_false, not_false_eq_true, Int.reduceEq]
      exact no (by omega)
theorem lp_div1 {i : Int} (hT : okT T len) (hL : L.length ≤ 24) (hs : srtL L) (ho : okIs L) (h0 : 0 ≤ i) (hi : i < len) (hbl : b + 4 ≤ lb ∨ lb + 4 ≤ b) : ∀ (j n : Nat) (h : zH) (p : (Int → Int) × (Int → Int)) (f g : Int → Int) (l4 : Option zV), n + j = 7 → 1 ≤ n → rTy h b len T f g → rIt h lb L → agr f p.1 (i + 1) → agr g p.2 (i + 1) → dvOk p (i + 1) → (∀ h' f' g' l3 l4, rTy h' b len T f' g' → agr f' (dvL (i + 1) (mN L T i j n) p).1 (i + 1) → agr g' (dvL (i + 1) (mN L T i j n) p).2 (i + 1) → dvOk (dvL (i + 1) (mN L T i j n) p) (i + 1) → fr h h' b 4 → zwp sc 60 77 [some (.inr (.inl (some b))), some (.inr (.inl (some lb))), some (.inl (i + 1)), l3, l4] [] h' Q) → zwp sc 60 38 [some (.inr (.inl (some b))), some (.inr (.inl (some lb))), some (.inl (i + 1)), some (.inl n), l4] [] h Q := by
  intro j
  have h60 := hT.2.1
  induction j with
  | zero =>
    intro n h p f g l4 hn h1 hY hI hf hg hk hQ
    have := hQ h f g (some (.inl n)) l4 hY hf hg hk fr_rf
    rw [w_60_38]
    simp (disch := omega) only [e_60, w_60_39, w_60_40, w_60_41, w_60_42, w_60_43, w_60_44, w_60_45, w_60_46, w_60_47, w_60_48, w_60_49, w_60_50, w_60_51, w_60_52, w_60_53, w_60_54, w_60_55, w_60_56, w_60_57, w_60_58, w_60_59, w_60_60, w_60_61, w_60_62, w_60_63, w_60_64, w_60_65, w_60_66, w_60_67, w_60_68, w_60_69, w_60_70, w_60_71, w_60_72, w_60_73, w_60_74, w_60_75, w_60_76, getK, putK, ialK, iasK, aalK, aasK, alnK, zgt_u, zgt_a, Option.toList_some, Option.toList_none, List.cons_append, List.nil_append, List.map_cons, List.map_nil, List.replicate, ite_true, ite_false, if_true, if_false, List.getElem?_cons_zero, List.getElem?_cons_succ, List.set_cons_zero, List.set_cons_succ, true_and, and_true, beq_self_eq_true, zite, Int.toNat_natCast, if_pos, if_neg, zwr_id, zand]
    exact this
  | succ j ih =>
    intro n h p f g l4 hn h1 hY hI hf hg hk hQ
    have hX := rTy_x hY
    obtain ⟨y0, y1, y2, y3⟩ := id hY
    have e : (n : Int) + 1 = ((n + 1 : Nat) : Int) := by omega
    by_cases c0 : (n : Int) ≤ i + 1
    · unfold mN at hQ
      cases hfn : fn (enT T (i + 1) n) L with
      | none =>
        rw [hfn] at hQ
        have hge : ixf (enT T (i + 1) n) 0 L = -1 := ixf_none (fn_none.mp hfn)
        rw [w_60_38]
        simp (disch := omega) only [e_60, w_60_39, w_60_40, w_60_41, w_60_42, w_60_43, w_60_44, w_60_45, w_60_46, w_60_47, w_60_48, w_60_49, w_60_50, w_60_51, w_60_52, w_60_53, w_60_54, w_60_55, w_60_56, w_60_57, w_60_58, w_60_59, w_60_60, w_60_61, w_60_62, w_60_63, w_60_64, w_60_65, w_60_66, w_60_67, w_60_68, w_60_69, w_60_70, w_60_71, w_60_72, w_60_73, w_60_74, w_60_75, w_60_76, getK, putK, ialK, iasK, aalK, aasK, alnK, zgt_u, zgt_a, Option.toList_some, Option.toList_none, List.cons_append, List.nil_append, List.map_cons, List.map_nil, List.replicate, ite_true, ite_false, if_true, if_false, List.getElem?_cons_zero, List.getElem?_cons_succ, List.set_cons_zero, List.set_cons_succ, true_and, and_true, beq_self_eq_true, zite, Int.toNat_natCast, if_pos, if_neg, zwr_id, zand, rTx_rc hX, s_matchAt hX hT hI hL, Int.add_sub_cancel, hge]
        rw [e]
        exact ih (n + 1) h p f g _ (by omega) (by omega) hY hI hf hg hk hQ
      | some x =>
        rw [hfn] at hQ
        obtain ⟨k, k1, k2⟩ := ixf_fn (k := 0) hs hfn
        have hkl := (List.getElem?_eq_some_iff.mp k1).1
        have hw := (ho x (List.mem_of_getElem? k1)).2.2.2
        have hgI := gI_at k1
        have hnd := fn_nd hT (show i + 1 ≤ len by omega) ho hfn
        have b1 := hk (i + 1 - n) (by omega) (by omega)
        have b2 := hf (i + 1 - n) (by omega) (by omega)
        have b3 := hg (i + 1 - n) (by omega) (by omega)
        have b4 := hf (i + 1) (by omega) (by omega)
        have b5 := hg (i + 1) (by omega) (by omega)
        rw [w_60_38]
        simp (disch := omega) only [e_60, w_60_39, w_60_40, w_60_41, w_60_42, w_60_43, w_60_44, w_60_45, w_60_46, w_60_47, w_60_48, w_60_49, w_60_50, w_60_51, w_60_52, w_60_53, w_60_54, w_60_55, w_60_56, w_60_57, w_60_58, w_60_59, w_60_60, w_60_61, w_60_62, w_60_63, w_60_64, w_60_65, w_60_66, w_60_67, w_60_68, w_60_69, w_60_70, w_60_71, w_60_72, w_60_73, w_60_74, w_60_75, w_60_76, getK, putK, ialK, iasK, aalK, aasK, alnK, zgt_u, zgt_a, Option.toList_some, Option.toList_none, List.cons_append, List.nil_append, List.map_cons, List.map_nil, List.replicate, ite_true, ite_false, if_true, if_false, List.getElem?_cons_zero, List.getElem?_cons_succ, List.set_cons_zero, List.set_cons_succ, true_and, and_true, beq_self_eq_true, zite, Int.toNat_natCast, if_pos, if_neg, zwr_id, zand, rTx_rc hX, s_matchAt hX hT hI hL, Int.add_sub_cancel, k2, Int.zero_add, rIt_rc hI, s_weightAt2 hI, hgI, y0, y1, y2, y3]
        refine s_offer hY (by omega) (by omega) (fun h' f' g' q1 q2 q3 => ?_)
        have q2' : agr f' (dvX p.1 p.2 (i + 1) x).1 (i + 1) ∧ agr g' (dvX p.1 p.2 (i + 1) x).2 (i + 1) := by
          unfold dvX
          rw [hnd.2, ← b2, ← b3, ← b4, ← b5]
          split at q2
          next c =>
            rw [if_pos c]
            cases q2
            exact ⟨agr_u hf, agr_u hg⟩
          next c =>
            rw [if_neg c]
            cases q2
            exact ⟨hf, hg⟩
        simp (disch := omega) only [e_60, w_60_39, w_60_40, w_60_41, w_60_42, w_60_43, w_60_44, w_60_45, w_60_46, w_60_47, w_60_48, w_60_49, w_60_50, w_60_51, w_60_52, w_60_53, w_60_54, w_60_55, w_60_56, w_60_57, w_60_58, w_60_59, w_60_60, w_60_61, w_60_62, w_60_63, w_60_64, w_60_65, w_60_66, w_60_67, w_60_68, w_60_69, w_60_70, w_60_71, w_60_72, w_60_73, w_60_74, w_60_75, w_60_76, getK, putK, ialK, iasK, aalK, aasK, alnK, zgt_u, zgt_a, Option.toList_some, Option.toList_none, List.cons_append, List.nil_append, List.map_cons, List.map_nil, List.replicate, ite_true, ite_false, if_true, if_false, List.getElem?_cons_zero, List.getElem?_cons_succ, List.set_cons_zero, List.set_cons_succ, true_and, and_true, beq_self_eq_true, zite, Int.toNat_natCast, if_pos, if_neg, zwr_id, zand]
        rw [e]
        exact ih (n + 1) h' (dvX p.1 p.2 (i + 1) x) f' g' _ (by omega) (by omega) q1 (rIt_fr hI q3 (by omega)) q2'.1 q2'.2 (dvX_ok hk ⟨by rw [hnd.2]; omega, by rw [hnd.2]; omega⟩ hw.2) (fun h'' f'' g'' l3 l4 a1 a2 a3 a4 a5 => hQ h'' f'' g'' l3 l4 a1 a2 a3 a4 (fr_tr q3 a5))
    · rw [mN_out ho (j + 1) n (by omega)] at hQ
      have := hQ h f g (some (.inl n)) l4 hY hf hg hk fr_rf
      rw [w_60_38]
      simp (disch := omega) only [e_60, w_60_39, w_60_40, w_60_41, w_60_42, w_60_43, w_60_44, w_60_45, w_60_46, w_60_47, w_60_48, w_60_49, w_60_50, w_60_51, w_60_52, w_60_53, w_60_54, w_60_55, w_60_56, w_60_57, w_60_58, w_60_59, w_60_60, w_60_61, w_60_62, w_60_63, w_60_64, w_60_65, w_60_66, w_60_67, w_60_68, w_60_69, w_60_70, w_60_71, w_60_72, w_60_73, w_60_74, w_60_75, w_60_76, getK, putK, ialK, iasK, aalK, aasK, alnK, zgt_u, zgt_a, Option.toList_some, Option.toList_none, List.cons_append, List.nil_append, List.map_cons, List.map_nil, List.replicate, ite_true, ite_false, if_true, if_false, List.getElem?_cons_zero, List.getElem?_cons_succ, List.set_cons_zero, List.set_cons_succ, true_and, and_true, beq_self_eq_true, zite, Int.toNat_natCast, if_pos, if_neg, zwr_id, zand]
      exact this
theorem lp_div0 (hT : okT T len) (hL : L.length ≤ 24) (hs : srtL L) (ho : okIs L) (hbl : b + 4 ≤ lb ∨ lb + 4 ≤ b) : ∀ (j n : Nat) (h : zH) (f g : Int → Int) (l3 l4 : Option zV), (n : Int) + j = len → rTy h b len T f g → rIt h lb L → agr f (dvR (fun i => mN L T i 6 1) n).1 n → agr g (dvR (fun i => mN L T i 6 1) n).2 n → dvOk (dvR (fun i => mN L T i 6 1) n) n → (∀ h' f' g', rTy h' b len T f' g' → agr f' (dvR (fun i => mN L T i 6 1) len.toNat).1 len → agr g' (dvR (fun i => mN L T i 6 1) len.toNat).2 len → fr h h' b 4 → Q none h') → zwp sc 60 12 [some (.inr (.inl (some b))), some (.inr (.inl (some lb))), some (.inl ((n : Int) + 1)), l3, l4] [] h Q := by
  intro j
  have h60 := hT.2.1
  induction j with
  | zero =>
    intro n h f g l3 l4 hn hY hI hf hg hk hQ
    have y0 := hY.1
    have e : len.toNat = n := by omega
    have e2 : len = n := by omega
    have := hQ h f g hY (by rw [e, e2]; exact hf) (by rw [e, e2]; exact hg) fr_rf
    rw [w_60_12]
    simp (disch := omega) only [e_60, w_60_0, w_60_1, w_60_2, w_60_3, w_60_4, w_60_5, w_60_6, w_60_7, w_60_8, w_60_9, w_60_10, w_60_11, w_60_13, w_60_14, w_60_15, w_60_16, w_60_17, w_60_18, w_60_19, w_60_20, w_60_21, w_60_22, w_60_23, w_60_24, w_60_25, w_60_26, w_60_27, w_60_28, w_60_29, w_60_30, w_60_31, w_60_32, w_60_33, w_60_34, w_60_35, w_60_36, w_60_37, w_60_39, w_60_40, w_60_41, w_60_42, w_60_43, w_60_44, w_60_45, w_60_46, w_60_47, w_60_48, w_60_49, w_60_50, w_60_51, w_60_52, w_60_53, w_60_54, w_60_55, w_60_56, w_60_57, w_60_58, w_60_59, w_60_60, w_60_61, w_60_62, w_60_63, w_60_64, w_60_65, w_60_66, w_60_67, w_60_68, w_60_69, w_60_70, w_60_71, w_60_72, w_60_73, w_60_74, w_60_75, w_60_76, w_60_77, w_60_78, w_60_79, getK, putK, ialK, iasK, aalK, aasK, alnK, zgt_u, zgt_a, Option.toList_some, Option.toList_none, List.cons_append, List.nil_append, List.map_cons, List.map_nil, List.replicate, ite_true, ite_false, if_true, if_false, List.getElem?_cons_zero, List.getElem?_cons_succ, List.set_cons_zero, List.set_cons_succ, true_and, and_true, beq_self_eq_true, zite, Int.toNat_natCast, if_pos, if_neg, zwr_id, zand, y0]
    exact this
  | succ j ih =>
    intro n h f g l3 l4 hn hY hI hf hg hk hQ
    obtain ⟨y0, y1, y2, y3⟩ := id hY
    have b1 := hf n (by omega) (by omega)
    have b2 := hg n (by omega) (by omega)
    have b3 := hk n (by omega) (by omega)
    rw [w_60_12]
    simp (disch := omega) only [e_60, w_60_13, w_60_14, w_60_15, w_60_16, w_60_17, w_60_18, w_60_19, w_60_20, w_60_21, w_60_22, w_60_23, w_60_24, w_60_25, w_60_26, w_60_27, w_60_28, w_60_29, w_60_30, w_60_31, w_60_32, w_60_33, w_60_34, w_60_35, w_60_36, w_60_37, getK, putK, ialK, iasK, aalK, aasK, alnK, zgt_u, zgt_a, Option.toList_some, Option.toList_none, List.cons_append, List.nil_append, List.map_cons, List.map_nil, List.replicate, ite_true, ite_false, if_true, if_false, List.getElem?_cons_zero, List.getElem?_cons_succ, List.set_cons_zero, List.set_cons_succ, true_and, and_true, beq_self_eq_true, zite, Int.toNat_natCast, if_pos, if_neg, zwr_id, zand, y0, y1, y2, y3, Int.add_sub_cancel, Nat.add_left_cancel_iff, Nat.reduceEqDiff, Nat.left_eq_add, Nat.add_eq_left]
    generalize hh : zuH (zuH h (b + 2) _) (b + 3) _ = h1
    have hY1 : rTy h1 b len T (zup f ((n : Int) + 1) (f n)) (zup g ((n : Int) + 1) (g n)) := by
      rw [← hh]
      refine ⟨?_, ?_, ?_, ?_⟩
      · simp (disch := omega) only [zgt_u, zgt_a, if_pos, if_neg, if_true, if_false, ite_true, ite_false]
        exact y0
      · simp (disch := omega) only [zgt_u, zgt_a, if_pos, if_neg, if_true, if_false, ite_true, ite_false]
        exact y1
      · simp (disch := omega) only [zgt_u, zgt_a, if_pos, if_neg, if_true, if_false, ite_true, ite_false]
      · simp (disch := omega) only [zgt_u, zgt_a, if_pos, if_neg, if_true, if_false, ite_true, ite_false]
    have hf1 : fr h h1 b 4 := by rw [← hh]; exact fr_u (fr_u fr_rf (by omega) (by omega)) (by omega) (by omega)
    have hp1 : dvOk (zup (dvR (fun i => mN L T i 6 1) n).1 ((n : Int) + 1) ((dvR (fun i => mN L T i 6 1) n).1 n), zup (dvR (fun i => mN L T i 6 1) n).2 ((n : Int) + 1) ((dvR (fun i => mN L T i 6 1) n).2 n)) ((n : Int) + 1) := by
      intro k k0 k1
      by_cases hkn : k = (n : Int) + 1
      · subst hkn
        simp only [zup_s]
        omega
      · simp only [zup_n hkn]
        exact hk k k0 (by omega)
    have ag : ∀ {f F : Int → Int}, agr f F n → agr (zup f ((n : Int) + 1) (f n)) (zup F ((n : Int) + 1) (F n)) ((n : Int) + 1) := by
      intro f F ha k k0 k1
      by_cases hkn : k = (n : Int) + 1
      · rw [hkn, zup_s, zup_s, ha n (by omega) (by omega)]
      · rw [zup_n hkn, zup_n hkn]; exact ha k k0 (by omega)
    refine lp_div1 hT hL hs ho (by omega) (by omega) hbl 6 1 h1 _ _ _ _ (by omega) (by omega) hY1 (rIt_fr hI hf1 (by omega)) (ag hf) (ag hg) hp1 (fun h2 f2 g2 m3 m4 q1 q2 q3 q4 q5 => ?_)
    simp (disch := omega) only [e_60, w_60_77, w_60_78, w_60_79, getK, putK, ialK, iasK, aalK, aasK, alnK, zgt_u, zgt_a, Option.toList_some, Option.toList_none, List.cons_append, List.nil_append, List.map_cons, List.map_nil, List.replicate, ite_true, ite_false, if_true, if_false, List.getElem?_cons_zero, List.getElem?_cons_succ, List.set_cons_zero, List.set_cons_succ, true_and, and_true, beq_self_eq_true, zite, Int.toNat_natCast, if_pos, if_neg, zwr_id, zand]
    exact ih (n + 1) h2 f2 g2 m3 m4 (by omega) q1 (rIt_fr (rIt_fr hI hf1 (by omega)) q5 (by omega)) q2 q3 q4 (fun h' f' g' a1 a2 a3 a4 => hQ h' f' g' a1 a2 a3 (fr_tr (fr_tr hf1 q5) a4))
theorem s_divide (hX : rTx h b len T) (hT : okT T len) (hI : rIt h lb L) (hL : L.length ≤ 24) (hs : srtL L) (ho : okIs L) (hbl : b + 4 ≤ lb ∨ lb + 4 ≤ b) (hQ : ∀ h' f' g', rTy h' b len T f' g' → agr f' (dvR (fun i => mN L T i 6 1) len.toNat).1 len → agr g' (dvR (fun i => mN L T i 6 1) len.toNat).2 len → fr h h' b 4 → Q none h') : zca sc 60 [.inr (.inl (some b)), .inr (.inl (some lb))] h Q := by
  obtain ⟨y0, y1, ⟨f, y2⟩, ⟨g, y3⟩⟩ := hX
  have h0 := hT.1
  simp (disch := omega) only [e_60, w_60_0, w_60_1, w_60_2, w_60_3, w_60_4, w_60_5, w_60_6, w_60_7, w_60_8, w_60_9, w_60_10, w_60_11, getK, putK, ialK, iasK, aalK, aasK, alnK, zgt_u, zgt_a, Option.toList_some, Option.toList_none, List.cons_append, List.nil_append, List.map_cons, List.map_nil, List.replicate, ite_true, ite_false, if_true, if_false, List.getElem?_cons_zero, List.getElem?_cons_succ, List.set_cons_zero, List.set_cons_succ, true_and, and_true, beq_self_eq_true, zite, Int.toNat_natCast, if_pos, if_neg, zwr_id, zand, y0, y1, y2, y3, Nat.add_left_cancel_iff, Nat.reduceEqDiff, Nat.left_eq_add, Nat.add_eq_left]
  generalize hh : zuH (zuH h (b + 2) _) (b + 3) _ = h1
  have hY1 : rTy h1 b len T (zup f 0 0) (zup g 0 0) := by
    rw [← hh]
    refine ⟨?_, ?_, ?_, ?_⟩
    · simp (disch := omega) only [zgt_u, zgt_a, if_pos, if_neg, if_true, if_false, ite_true, ite_false]
      exact y0
    · simp (disch := omega) only [zgt_u, zgt_a, if_pos, if_neg, if_true, if_false, ite_true, ite_false]
      exact y1
    · simp (disch := omega) only [zgt_u, zgt_a, if_pos, if_neg, if_true, if_false, ite_true, ite_false]
    · simp (disch := omega) only [zgt_u, zgt_a, if_pos, if_neg, if_true, if_false, ite_true, ite_false]
  have hf1 : fr h h1 b 4 := by rw [← hh]; exact fr_u (fr_u fr_rf (by omega) (by omega)) (by omega) (by omega)
  have ag : ∀ f : Int → Int, agr (zup f 0 0) (fun _ => 0) ((0 : Nat) : Int) := by
    intro f k k0 k1
    rw [show k = 0 by omega, zup_s]
  have := lp_div0 (sc := sc) (Q := Q) hT hL hs ho hbl len.toNat 0 h1 _ _ none none (by omega) hY1 (rIt_fr hI hf1 (by omega)) (ag f) (ag g) (fun k k0 k1 => by show 0 ≤ (0 : Int) ∧ (0 : Int) ≤ _ ∧ 0 ≤ (0 : Int) ∧ (0 : Int) ≤ k; omega) (fun h' f' g' a1 a2 a3 a4 => hQ h' f' g' a1 a2 a3 (fr_tr hf1 a4))
  exact this
theorem s_divisionWeight (hX : rTx h b len T) (hT : okT T len) (hI : rIt h lb L) (hL : L.length ≤ 24) (hs : srtL L) (ho : okIs L) (hbl : b + 4 ≤ lb ∨ lb + 4 ≤ b) (hQ : ∀ h', rTx h' b len T → fr h h' b 4 → Q (some (.inl ((dvR (fun i => mN L T i 6 1) len.toNat).1 len))) h') : zca sc 58 [.inr (.inl (some b)), .inr (.inl (some lb))] h Q := by
  have h0 := hT.1
  have h60 := hT.2.1
  simp (disch := omega) only [e_58, w_58_0, w_58_1, w_58_2, w_58_3, w_58_4, w_58_5, w_58_6, w_58_7, w_58_8, getK, putK, ialK, iasK, aalK, aasK, alnK, zgt_u, zgt_a, Option.toList_some, Option.toList_none, List.cons_append, List.nil_append, List.map_cons, List.map_nil, List.replicate, ite_true, ite_false, if_true, if_false, List.getElem?_cons_zero, List.getElem?_cons_succ, List.set_cons_zero, List.set_cons_succ, true_and, and_true, beq_self_eq_true, zite, Int.toNat_natCast, if_pos, if_neg, zwr_id, zand, rTx_rc hX]
  refine s_divide hX hT hI hL hs ho hbl (fun h' f' g' q1 q2 q3 q4 => ?_)
  obtain ⟨y0, y1, y2, y3⟩ := id q1
  have b1 := q2 len h0 (Int.le_refl _)
  simp (disch := omega) only [e_58, w_58_0, w_58_1, w_58_2, w_58_3, w_58_4, w_58_5, w_58_6, w_58_7, w_58_8, getK, putK, ialK, iasK, aalK, aasK, alnK, zgt_u, zgt_a, Option.toList_some, Option.toList_none, List.cons_append, List.nil_append, List.map_cons, List.map_nil, List.replicate, ite_true, ite_false, if_true, if_false, List.getElem?_cons_zero, List.getElem?_cons_succ, List.set_cons_zero, List.set_cons_succ, true_and, and_true, beq_self_eq_true, zite, Int.toNat_natCast, if_pos, if_neg, zwr_id, zand, y0, y1, y2, y3, b1]
  exact hQ h' (rTy_x q1) q4
theorem s_divisionMatches (hX : rTx h b len T) (hT : okT T len) (hI : rIt h lb L) (hL : L.length ≤ 24) (hs : srtL L) (ho : okIs L) (hbl : b + 4 ≤ lb ∨ lb + 4 ≤ b) (hQ : ∀ h', rTx h' b len T → fr h h' b 4 → Q (some (.inl ((dvR (fun i => mN L T i 6 1) len.toNat).2 len))) h') : zca sc 59 [.inr (.inl (some b)), .inr (.inl (some lb))] h Q := by
  have h0 := hT.1
  have h60 := hT.2.1
  simp (disch := omega) only [e_59, w_59_0, w_59_1, w_59_2, w_59_3, w_59_4, w_59_5, w_59_6, w_59_7, w_59_8, getK, putK, ialK, iasK, aalK, aasK, alnK, zgt_u, zgt_a, Option.toList_some, Option.toList_none, List.cons_append, List.nil_append, List.map_cons, List.map_nil, List.replicate, ite_true, ite_false, if_true, if_false, List.getElem?_cons_zero, List.getElem?_cons_succ, List.set_cons_zero, List.set_cons_succ, true_and, and_true, beq_self_eq_true, zite, Int.toNat_natCast, if_pos, if_neg, zwr_id, zand, rTx_rc hX]
  refine s_divide hX hT hI hL hs ho hbl (fun h' f' g' q1 q2 q3 q4 => ?_)
  obtain ⟨y0, y1, y2, y3⟩ := id q1
  have b1 := q3 len h0 (Int.le_refl _)
  simp (disch := omega) only [e_59, w_59_0, w_59_1, w_59_2, w_59_3, w_59_4, w_59_5, w_59_6, w_59_7, w_59_8, getK, putK, ialK, iasK, aalK, aasK, alnK, zgt_u, zgt_a, Option.toList_some, Option.toList_none, List.cons_append, List.nil_append, List.map_cons, List.map_nil, List.replicate, ite_true, ite_false, if_true, if_false, List.getElem?_cons_zero, List.getElem?_cons_succ, List.set_cons_zero, List.set_cons_succ, true_and, and_true, beq_self_eq_true, zite, Int.toNat_natCast, if_pos, if_neg, zwr_id, zand, y0, y1, y2, y3, b1]
  exact hQ h' (rTy_x q1) q4
theorem s_makeEmpty4 (hX : rTx h b len T) (hQ : ∀ h', rTx h' b 0 T → fr h h' b 4 → Q none h') : zca sc 44 [.inr (.inl (some b))] h Q := by
  obtain ⟨y0, y1, ⟨f, y2⟩, ⟨g, y3⟩⟩ := hX
  simp (disch := omega) only [e_44, w_44_0, w_44_1, w_44_2, w_44_3, getK, putK, ialK, iasK, aalK, aasK, alnK, zgt_u, zgt_a, Option.toList_some, Option.toList_none, List.cons_append, List.nil_append, List.map_cons, List.map_nil, List.replicate, ite_true, ite_false, if_true, if_false, List.getElem?_cons_zero, List.getElem?_cons_succ, List.set_cons_zero, List.set_cons_succ, true_and, and_true, beq_self_eq_true, zite, Int.toNat_natCast, if_pos, if_neg, zwr_id, zand, y0]
  refine hQ _ ⟨?_, ?_, ⟨f, ?_⟩, ⟨g, ?_⟩⟩ (fr_u fr_rf (by omega) (by omega))
  · simp (disch := omega) only [zgt_u, zgt_a, if_pos, if_neg, if_true, if_false, ite_true, ite_false]
  · simp (disch := omega) only [zgt_u, zgt_a, if_pos, if_neg, if_true, if_false, ite_true, ite_false]
    exact y1
  · simp (disch := omega) only [zgt_u, zgt_a, if_pos, if_neg, if_true, if_false, ite_true, ite_false]
    exact y2
  · simp (disch := omega) only [zgt_u, zgt_a, if_pos, if_neg, if_true, if_false, ite_true, ite_false]
    exact y3
end
