/-! THE LAW'S GROUPS -/
def csm (F : List zI) : Nat → Int → Int
  | 0, _ => 0
  | j + 1, g => cti g F + csm F j (g + 1)
section
variable {sc : Nat × (Int → Int)} {b1 b2 : Nat} {z z2 : zS} {c2 : Nat} {Q : Option zV → zH → Prop}
theorem lp_ag38 {H : zH} {c : Nat} {f g fl it : Int} {N : List zI} (hP : PP b1 b2 H z z2 c c2) (hz : okZ z) (ho : okIs N) (hs : srtI N) (hg : ∀ x ∈ N, x.1 = g) (hl : N.length ≤ 48) (hit : ∀ k, 0 ≤ k → k < (N.length : Int) → itS z f g k 0 = (gI N k).2.1 ∧ itS z f g k 1 = (gI N k).2.2) (hend : ∀ l9 l10, zwp sc 91 100 [some (.inr (.inl (some b1))), some (.inl fl), some (.inl f), some (.inl it), some (.inl g), some (.inl (N.length : Int)), some (.inl (nsum N)), some (.inl (wsum N)), some (.inl (N.length : Int)), l9, l10] [] H Q) : ∀ (S P : List zI), P ++ S = N → ∀ l9 l10, zwp sc 91 38 [some (.inr (.inl (some b1))), some (.inl fl), some (.inl f), some (.inl it), some (.inl g), some (.inl (N.length : Int)), some (.inl (nsum P)), some (.inl (wsum P)), some (.inl (P.length : Int)), l9, l10] [] H Q := by
  intro S
  induction S with
  | nil =>
    intro P hPS l9 l10
    rw [List.append_nil] at hPS
    subst hPS
    rw [w_91_38]
    simp (disch := omega) only [e_91, w_91_39, w_91_40, getK, putK, ialK, iasK, aalK, aasK, alnK, zgt_u, zgt_a, Option.toList_some, Option.toList_none, List.cons_append, List.nil_append, List.map_cons, List.map_nil, List.replicate, ite_true, ite_false, if_true, if_false, List.getElem?_cons_zero, List.getElem?_cons_succ, List.set_cons_zero, List.set_cons_succ, true_and, and_true, beq_self_eq_true, zite, Int.toNat_natCast, if_pos, if_neg, zwr_id, zand]
    exact hend l9 l10
  | cons x S ih =>
    intro P hPS l9 l10
    have hx : x ∈ N := by rw [← hPS]; simp
    have hox := ho x hx
    have hw := hox.2.2.1
    unfold wd at hw
    have hnd := wd_nd hox.2.2.1
    have hlen : P.length + 1 + S.length = N.length := by rw [← hPS, List.length_append, List.length_cons]; omega
    have hoP : okIs P := fun y hy => ho y (by rw [← hPS]; exact List.mem_append_left _ hy)
    have hnb := nsum_b hoP
    have hwb := wsum_b hoP
    have hgx : gI N (P.length : Int) = x := by rw [← hPS]; exact gI_app
    obtain ⟨e0, e1⟩ := hit (P.length : Int) (by omega) (by omega)
    rw [hgx] at e0 e1
    have hnx : nsum (P ++ [x]) = nsum P + nd x.2.1 := by rw [nsum_app]; show _ + (nd x.2.1 + 0) = _; omega
    have hwx : wsum (P ++ [x]) = wsum P + x.2.2 := by rw [wsum_app]; show _ + (x.2.2 + 0) = _; omega
    have hlx : ((P ++ [x]).length : Int) = (P.length : Int) + 1 := by rw [List.length_append, List.length_singleton]; omega
    have hih := ih (P ++ [x]) (by rw [List.append_assoc]; exact hPS) (some (.inl x.2.1)) (some (.inl x.2.2))
    rw [hnx, hwx, hlx] at hih
    have hw2 := hox.2.2.2
    rw [w_91_38]
    by_cases hk : P.length = 0
    · simp (disch := omega) only [e_91, w_91_39, w_91_40, w_91_41, w_91_42, w_91_43, w_91_44, w_91_45, w_91_46, w_91_47, w_91_48, w_91_49, w_91_50, w_91_51, w_91_52, w_91_53, w_91_54, w_91_55, w_91_56, w_91_57, w_91_58, w_91_59, w_91_60, w_91_61, w_91_62, w_91_63, w_91_64, w_91_65, w_91_66, w_91_67, w_91_68, w_91_69, w_91_70, w_91_71, w_91_72, w_91_73, w_91_74, w_91_75, w_91_76, w_91_77, w_91_78, w_91_79, w_91_80, w_91_81, w_91_82, w_91_83, w_91_84, w_91_85, w_91_86, w_91_87, w_91_88, w_91_89, w_91_90, w_91_91, w_91_92, w_91_93, w_91_94, w_91_95, w_91_96, w_91_97, w_91_98, w_91_99, getK, putK, ialK, iasK, aalK, aasK, alnK, zgt_u, zgt_a, Option.toList_some, Option.toList_none, List.cons_append, List.nil_append, List.map_cons, List.map_nil, List.replicate, ite_true, ite_false, if_true, if_false, List.getElem?_cons_zero, List.getElem?_cons_succ, List.set_cons_zero, List.set_cons_succ, true_and, and_true, beq_self_eq_true, zite, Int.toNat_natCast, if_pos, if_neg, zwr_id, zand, p_rc hP, p_item hP hz, e0, e1, l_size]
      exact hih
    · obtain ⟨d0, d1⟩ := hit ((P.length : Int) - 1) (by omega) (by omega)
      have hle := grp_le hs hg (k := (P.length : Int)) (by omega) (by omega)
      rw [hgx] at hle
      generalize gI N ((P.length : Int) - 1) = y at *
      by_cases hq : y.2.1 = x.2.1
      · simp (disch := omega) only [e_91, w_91_39, w_91_40, w_91_41, w_91_42, w_91_43, w_91_44, w_91_45, w_91_46, w_91_47, w_91_48, w_91_49, w_91_50, w_91_51, w_91_52, w_91_53, w_91_54, w_91_55, w_91_56, w_91_57, w_91_58, w_91_59, w_91_60, w_91_61, w_91_62, w_91_63, w_91_64, w_91_65, w_91_66, w_91_67, w_91_68, w_91_69, w_91_70, w_91_71, w_91_72, w_91_73, w_91_74, w_91_75, w_91_76, w_91_77, w_91_78, w_91_79, w_91_80, w_91_81, w_91_82, w_91_83, w_91_84, w_91_85, w_91_86, w_91_87, w_91_88, w_91_89, w_91_90, w_91_91, w_91_92, w_91_93, w_91_94, w_91_95, w_91_96, w_91_97, w_91_98, w_91_99, getK, putK, ialK, iasK, aalK, aasK, alnK, zgt_u, zgt_a, Option.toList_some, Option.toList_none, List.cons_append, List.nil_append, List.map_cons, List.map_nil, List.replicate, ite_true, ite_false, if_true, if_false, List.getElem?_cons_zero, List.getElem?_cons_succ, List.set_cons_zero, List.set_cons_succ, true_and, and_true, beq_self_eq_true, zite, Int.toNat_natCast, if_pos, if_neg, zwr_id, zand, p_rc hP, p_item hP hz, e0, e1, l_size, d0, d1]
        exact hih
      · simp (disch := omega) only [e_91, w_91_39, w_91_40, w_91_41, w_91_42, w_91_43, w_91_44, w_91_45, w_91_46, w_91_47, w_91_48, w_91_49, w_91_50, w_91_51, w_91_52, w_91_53, w_91_54, w_91_55, w_91_56, w_91_57, w_91_58, w_91_59, w_91_60, w_91_61, w_91_62, w_91_63, w_91_64, w_91_65, w_91_66, w_91_67, w_91_68, w_91_69, w_91_70, w_91_71, w_91_72, w_91_73, w_91_74, w_91_75, w_91_76, w_91_77, w_91_78, w_91_79, w_91_80, w_91_81, w_91_82, w_91_83, w_91_84, w_91_85, w_91_86, w_91_87, w_91_88, w_91_89, w_91_90, w_91_91, w_91_92, w_91_93, w_91_94, w_91_95, w_91_96, w_91_97, w_91_98, w_91_99, getK, putK, ialK, iasK, aalK, aasK, alnK, zgt_u, zgt_a, Option.toList_some, Option.toList_none, List.cons_append, List.nil_append, List.map_cons, List.map_nil, List.replicate, ite_true, ite_false, if_true, if_false, List.getElem?_cons_zero, List.getElem?_cons_succ, List.set_cons_zero, List.set_cons_succ, true_and, and_true, beq_self_eq_true, zite, Int.toNat_natCast, if_pos, if_neg, zwr_id, zand, p_rc hP, p_item hP hz, e0, e1, l_size, d0, d1]
        exact hih
theorem lp_ag11 {f : Int} (hz : okW z) (hf : 0 ≤ f ∧ f ≤ 1) : ∀ (j : Nat) (g : Int) (H : zH) (c : Nat) (fl it : Int), g + j = 7 → 0 ≤ g → PP b1 b2 H z z2 c c2 → c + 2 * j ≤ 100000 → 0 ≤ fl → fl ≤ 7 + g → 0 ≤ it → it ≤ 48 * g → (∀ H' l5 l6 l7 l8 l9 l10, PP b1 b2 H' z z2 (c + 2 * j) c2 → zwp sc 91 168 [some (.inr (.inl (some b1))), some (.inl (fl + guc (famS z f) j g)), some (.inl f), some (.inl (it + csm (famS z f) j g)), some (.inl 7), l5, l6, l7, l8, l9, l10] [] H' Q) → ∀ l5 l6 l7 l8 l9 l10, zwp sc 91 11 [some (.inr (.inl (some b1))), some (.inl fl), some (.inl f), some (.inl it), some (.inl g), l5, l6, l7, l8, l9, l10] [] H Q := by
  intro j
  induction j with
  | zero =>
    intro g H c fl it hg h0 hP hc f1 f2 i1 i2 hQ l5 l6 l7 l8 l9 l10
    have hg7 : g = 7 := by omega
    subst hg7
    have := hQ H l5 l6 l7 l8 l9 l10 hP
    unfold guc csm at this
    rw [Int.add_zero, Int.add_zero] at this
    rw [w_91_11]
    simp (disch := omega) only [e_91, w_91_12, w_91_13, getK, putK, ialK, iasK, aalK, aasK, alnK, zgt_u, zgt_a, Option.toList_some, Option.toList_none, List.cons_append, List.nil_append, List.map_cons, List.map_nil, List.replicate, ite_true, ite_false, if_true, if_false, List.getElem?_cons_zero, List.getElem?_cons_succ, List.set_cons_zero, List.set_cons_succ, true_and, and_true, beq_self_eq_true, zite, Int.toNat_natCast, if_pos, if_neg, zwr_id, zand]
    exact this
  | succ j ih =>
    intro g H c fl it hg h0 hP hc f1 f2 i1 i2 hQ l5 l6 l7 l8 l9 l10
    have hg6 : 0 ≤ g ∧ g ≤ 6 := by omega
    obtain ⟨q1, q2, q3, q4, q5, q6, q7, q8, q9, q10, q11, q12, q13, q14, q15, q16⟩ := grp_ok hz hf hg6
    generalize hN : sgS z f g = N at *
    unfold guc csm at hQ
    rw [← q6] at hQ
    obtain ⟨H1, a1, a2⟩ := p_group (sc := sc) (f := f) (g := g) (w := 1) hP hz.1 (by omega)
    obtain ⟨H2, d1, d2⟩ := p_group (sc := sc) (f := f) (g := g) (w := 3) a1 hz.1 (by omega)
    have htw : (N.length : Int) ≤ (Int32.ofInt 1 <<< (Int32.ofInt g &&& 31)).toInt := q11
    have key : ∀ (fl' : Int) (l9 l10 : Option zV), fl' = fl + (if 0 < (N.length : Int) then 1 else 0) → zwp sc 91 100 [some (.inr (.inl (some b1))), some (.inl fl'), some (.inl f), some (.inl (it + (N.length : Int))), some (.inl g), some (.inl (N.length : Int)), some (.inl (nsum N)), some (.inl (wsum N)), some (.inl (N.length : Int)), l9, l10] [] H Q := by
      intro fl' l9 l10 hfl
      have hfb : 0 ≤ fl' ∧ fl' ≤ 7 + (g + 1) := by rw [hfl]; split <;> omega
      have hnb := nsum_b q1
      have hih := ih (g + 1) H2 (c + 1 + 1) fl' (it + (N.length : Int)) (by omega) (by omega) d1 (by omega) hfb.1 hfb.2 (by omega) (by omega) (fun H' l5 l6 l7 l8 l9 l10 hP' => by
        have := hQ H' l5 l6 l7 l8 l9 l10 (by rw [show c + 2 * (j + 1) = c + 1 + 1 + 2 * j by omega]; exact hP')
        rw [hfl, Int.add_assoc, Int.add_assoc]
        exact this)
      by_cases hm : (N.length : Int) = 0
      · have hn0 := q12.mp hm
        simp (disch := omega) only [e_91, w_91_100, w_91_101, w_91_102, w_91_103, w_91_104, w_91_105, w_91_106, w_91_107, w_91_108, w_91_109, w_91_110, w_91_111, w_91_112, w_91_113, w_91_114, w_91_115, w_91_116, w_91_117, w_91_118, w_91_119, w_91_120, w_91_121, w_91_122, w_91_123, w_91_124, w_91_125, w_91_126, w_91_127, w_91_128, w_91_129, w_91_130, w_91_131, w_91_132, w_91_133, w_91_134, w_91_135, w_91_136, w_91_137, w_91_138, w_91_139, w_91_140, w_91_141, w_91_142, w_91_143, w_91_144, w_91_145, w_91_146, w_91_147, w_91_148, w_91_149, w_91_150, w_91_151, w_91_152, w_91_153, w_91_154, w_91_155, w_91_156, w_91_157, w_91_158, w_91_159, w_91_160, w_91_161, w_91_162, w_91_163, w_91_164, w_91_165, w_91_166, w_91_167, getK, putK, ialK, iasK, aalK, aasK, alnK, zgt_u, zgt_a, Option.toList_some, Option.toList_none, List.cons_append, List.nil_append, List.map_cons, List.map_nil, List.replicate, ite_true, ite_false, if_true, if_false, List.getElem?_cons_zero, List.getElem?_cons_succ, List.set_cons_zero, List.set_cons_succ, true_and, and_true, beq_self_eq_true, zite, Int.toNat_natCast, if_pos, if_neg, zwr_id, zand, p_rc hP, a2, p_rc a1, p_groupE a1 hz.1, p_item a1 hz.1, q9, q10, q8, d2]
        exact hih _ _ _ _ _ _
      · have hn0 : ¬ grS z f g 1 = 0 := fun q => hm (q12.mpr q)
        simp (disch := omega) only [e_91, w_91_100, w_91_101, w_91_102, w_91_103, w_91_104, w_91_105, w_91_106, w_91_107, w_91_108, w_91_109, w_91_110, w_91_111, w_91_112, w_91_113, w_91_114, w_91_115, w_91_116, w_91_117, w_91_118, w_91_119, w_91_120, w_91_121, w_91_122, w_91_123, w_91_124, w_91_125, w_91_126, w_91_127, w_91_128, w_91_129, w_91_130, w_91_131, w_91_132, w_91_133, w_91_134, w_91_135, w_91_136, w_91_137, w_91_138, w_91_139, w_91_140, w_91_141, w_91_142, w_91_143, w_91_144, w_91_145, w_91_146, w_91_147, w_91_148, w_91_149, w_91_150, w_91_151, w_91_152, w_91_153, w_91_154, w_91_155, w_91_156, w_91_157, w_91_158, w_91_159, w_91_160, w_91_161, w_91_162, w_91_163, w_91_164, w_91_165, w_91_166, w_91_167, getK, putK, ialK, iasK, aalK, aasK, alnK, zgt_u, zgt_a, Option.toList_some, Option.toList_none, List.cons_append, List.nil_append, List.map_cons, List.map_nil, List.replicate, ite_true, ite_false, if_true, if_false, List.getElem?_cons_zero, List.getElem?_cons_succ, List.set_cons_zero, List.set_cons_succ, true_and, and_true, beq_self_eq_true, zite, Int.toNat_natCast, if_pos, if_neg, zwr_id, zand, p_rc hP, a2, p_rc a1, p_groupE a1 hz.1, p_item a1 hz.1, q9, q10, q8, d2]
        exact hih _ _ _ _ _ _
    have go : ∀ (fl' : Int), fl' = fl + (if 0 < (N.length : Int) then 1 else 0) → ∀ l9 l10, zwp sc 91 38 [some (.inr (.inl (some b1))), some (.inl fl'), some (.inl f), some (.inl (it + (N.length : Int))), some (.inl g), some (.inl (N.length : Int)), some (.inl 0), some (.inl 0), some (.inl 0), l9, l10] [] H Q := fun fl' hfl l9 l10 => lp_ag38 hP hz.1 q1 q2 q3 q4 q7 (fun l9 l10 => key fl' l9 l10 hfl) N [] (List.nil_append N) l9 l10
    rw [w_91_11]
    by_cases hm : 0 < (N.length : Int)
    · simp (disch := omega) only [e_91, w_91_12, w_91_13, w_91_14, w_91_15, w_91_16, w_91_17, w_91_18, w_91_19, w_91_20, w_91_21, w_91_22, w_91_23, w_91_24, w_91_25, w_91_26, w_91_27, w_91_28, w_91_29, w_91_30, w_91_31, w_91_32, w_91_33, w_91_34, w_91_35, w_91_36, w_91_37, getK, putK, ialK, iasK, aalK, aasK, alnK, zgt_u, zgt_a, Option.toList_some, Option.toList_none, List.cons_append, List.nil_append, List.map_cons, List.map_nil, List.replicate, ite_true, ite_false, if_true, if_false, List.getElem?_cons_zero, List.getElem?_cons_succ, List.set_cons_zero, List.set_cons_succ, true_and, and_true, beq_self_eq_true, zite, Int.toNat_natCast, if_pos, if_neg, zwr_id, zand, p_rc hP, p_groupE hP hz.1, q5]
      exact go (fl + 1) (by rw [if_pos hm]) _ _
    · simp (disch := omega) only [e_91, w_91_12, w_91_13, w_91_14, w_91_15, w_91_16, w_91_17, w_91_18, w_91_19, w_91_20, w_91_21, w_91_22, w_91_23, w_91_24, w_91_25, w_91_26, w_91_27, w_91_28, w_91_29, w_91_30, w_91_31, w_91_32, w_91_33, w_91_34, w_91_35, w_91_36, w_91_37, getK, putK, ialK, iasK, aalK, aasK, alnK, zgt_u, zgt_a, Option.toList_some, Option.toList_none, List.cons_append, List.nil_append, List.map_cons, List.map_nil, List.replicate, ite_true, ite_false, if_true, if_false, List.getElem?_cons_zero, List.getElem?_cons_succ, List.set_cons_zero, List.set_cons_succ, true_and, and_true, beq_self_eq_true, zite, Int.toNat_natCast, if_pos, if_neg, zwr_id, zand, p_rc hP, p_groupE hP hz.1, q5]
      exact go fl (by rw [if_neg hm]; omega) _ _
theorem ag_fam {f : Int} {H : zH} {c : Nat} {fl : Int} (hz : okW z) (hf : 0 ≤ f ∧ f ≤ 1) (hP : PP b1 b2 H z z2 c c2) (hc : c ≤ 90000) (f1 : 0 ≤ fl) (f2 : fl ≤ 7) (hQ : ∀ H' l3 l4 l5 l6 l7 l8 l9 l10, PP b1 b2 H' z z2 (c + 14) c2 → zwp sc 91 4 [some (.inr (.inl (some b1))), some (.inl (fl + guc (famS z f) 7 0)), some (.inl (f + 1)), l3, l4, l5, l6, l7, l8, l9, l10] [] H' Q) : ∀ l3 l4 l5 l6 l7 l8 l9 l10, zwp sc 91 4 [some (.inr (.inl (some b1))), some (.inl fl), some (.inl f), l3, l4, l5, l6, l7, l8, l9, l10] [] H Q := by
  intro l3 l4 l5 l6 l7 l8 l9 l10
  obtain ⟨o1, o2, o3, o4⟩ := fam_ok hz hf
  have hs := cti_sum o1
  have hcs : csm (famS z f) 7 0 = ((famS z f).length : Int) := by
    unfold csm; unfold csm; unfold csm; unfold csm; unfold csm; unfold csm; unfold csm; unfold csm
    simp only [Int.reduceAdd, Int.zero_add, Int.add_zero]
    omega
  rw [w_91_4]
  simp (disch := omega) only [e_91, w_91_5, w_91_6, w_91_7, w_91_8, w_91_9, w_91_10, getK, putK, ialK, iasK, aalK, aasK, alnK, zgt_u, zgt_a, Option.toList_some, Option.toList_none, List.cons_append, List.nil_append, List.map_cons, List.map_nil, List.replicate, ite_true, ite_false, if_true, if_false, List.getElem?_cons_zero, List.getElem?_cons_succ, List.set_cons_zero, List.set_cons_succ, true_and, and_true, beq_self_eq_true, zite, Int.toNat_natCast, if_pos, if_neg, zwr_id, zand]
  refine lp_ag11 hz hf 7 0 H c fl 0 (by omega) (Int.le_refl _) hP (by omega) f1 (by omega) (Int.le_refl _) (by omega) (fun H' l5 l6 l7 l8 l9 l10 hP' => ?_) _ _ _ _ _ _
  rw [hcs, Int.zero_add]
  simp (disch := omega) only [e_91, w_91_168, w_91_169, w_91_170, w_91_171, w_91_172, w_91_173, w_91_174, w_91_175, w_91_176, w_91_177, w_91_178, getK, putK, ialK, iasK, aalK, aasK, alnK, zgt_u, zgt_a, Option.toList_some, Option.toList_none, List.cons_append, List.nil_append, List.map_cons, List.map_nil, List.replicate, ite_true, ite_false, if_true, if_false, List.getElem?_cons_zero, List.getElem?_cons_succ, List.set_cons_zero, List.set_cons_succ, true_and, and_true, beq_self_eq_true, zite, Int.toNat_natCast, if_pos, if_neg, zwr_id, zand, p_rc hP', p_told hP' hz.1, o4]
  exact hQ H' _ _ _ _ _ _ _ _ hP'
theorem l_areGroups {H : zH} {c : Nat} (hz : okW z) (hP : PP b1 b2 H z z2 c c2) (hc : c ≤ 80000) : ∃ H', PP b1 b2 H' z z2 (c + 28) c2 ∧ ∀ Q, zca sc 91 [.inr (.inl (some b1))] H Q = Q (some (.inl 1)) H' := by
  refine det_of ?_
  obtain ⟨a1, a2, a3, a4, a5, a6, a7, a8, a9, a10, a11⟩ := id hz.1.1
  have g0 := guc_b (famS z 0) 7 0
  have g1 := guc_b (famS z 1) 7 0
  have t9 : toS z 9 = guc (famS z 0) 7 0 + guc (famS z 1) 7 0 := rfl
  have t0 : toS z 0 = (z.S.1.length : Int) := rfl
  have t1 : toS z 1 = (z.S.2.1.length : Int) := rfl
  have t2 : toS z 2 = (z.S.2.2.1.length : Int) := rfl
  simp (disch := omega) only [e_91, w_91_0, w_91_1, w_91_2, w_91_3, getK, putK, ialK, iasK, aalK, aasK, alnK, zgt_u, zgt_a, Option.toList_some, Option.toList_none, List.cons_append, List.nil_append, List.map_cons, List.map_nil, List.replicate, ite_true, ite_false, if_true, if_false, List.getElem?_cons_zero, List.getElem?_cons_succ, List.set_cons_zero, List.set_cons_succ, true_and, and_true, beq_self_eq_true, zite, Int.toNat_natCast, if_pos, if_neg, zwr_id, zand]
  refine ag_fam hz ⟨Int.le_refl _, by omega⟩ hP (by omega) (Int.le_refl _) (by omega) (fun H1 l3 l4 l5 l6 l7 l8 l9 l10 p1 => ?_) _ _ _ _ _ _ _ _
  rw [Int.zero_add, Int.zero_add]
  refine ag_fam hz ⟨by omega, Int.le_refl _⟩ p1 (by omega) (by omega) (by omega) (fun H2 l3 l4 l5 l6 l7 l8 l9 l10 p2 => ?_) _ _ _ _ _ _ _ _
  rw [show (1 : Int) + 1 = 2 from rfl, w_91_4]
  simp (disch := omega) only [e_91, w_91_5, w_91_6, w_91_7, w_91_8, w_91_9, w_91_10, w_91_12, w_91_13, w_91_14, w_91_15, w_91_16, w_91_17, w_91_18, w_91_19, w_91_20, w_91_21, w_91_22, w_91_23, w_91_24, w_91_25, w_91_26, w_91_27, w_91_28, w_91_29, w_91_30, w_91_31, w_91_32, w_91_33, w_91_34, w_91_35, w_91_36, w_91_37, w_91_39, w_91_40, w_91_41, w_91_42, w_91_43, w_91_44, w_91_45, w_91_46, w_91_47, w_91_48, w_91_49, w_91_50, w_91_51, w_91_52, w_91_53, w_91_54, w_91_55, w_91_56, w_91_57, w_91_58, w_91_59, w_91_60, w_91_61, w_91_62, w_91_63, w_91_64, w_91_65, w_91_66, w_91_67, w_91_68, w_91_69, w_91_70, w_91_71, w_91_72, w_91_73, w_91_74, w_91_75, w_91_76, w_91_77, w_91_78, w_91_79, w_91_80, w_91_81, w_91_82, w_91_83, w_91_84, w_91_85, w_91_86, w_91_87, w_91_88, w_91_89, w_91_90, w_91_91, w_91_92, w_91_93, w_91_94, w_91_95, w_91_96, w_91_97, w_91_98, w_91_99, w_91_100, w_91_101, w_91_102, w_91_103, w_91_104, w_91_105, w_91_106, w_91_107, w_91_108, w_91_109, w_91_110, w_91_111, w_91_112, w_91_113, w_91_114, w_91_115, w_91_116, w_91_117, w_91_118, w_91_119, w_91_120, w_91_121, w_91_122, w_91_123, w_91_124, w_91_125, w_91_126, w_91_127, w_91_128, w_91_129, w_91_130, w_91_131, w_91_132, w_91_133, w_91_134, w_91_135, w_91_136, w_91_137, w_91_138, w_91_139, w_91_140, w_91_141, w_91_142, w_91_143, w_91_144, w_91_145, w_91_146, w_91_147, w_91_148, w_91_149, w_91_150, w_91_151, w_91_152, w_91_153, w_91_154, w_91_155, w_91_156, w_91_157, w_91_158, w_91_159, w_91_160, w_91_161, w_91_162, w_91_163, w_91_164, w_91_165, w_91_166, w_91_167, w_91_168, w_91_169, w_91_170, w_91_171, w_91_172, w_91_173, w_91_174, w_91_175, w_91_176, w_91_177, w_91_178, w_91_179, w_91_180, w_91_181, w_91_182, w_91_183, w_91_184, w_91_185, w_91_186, w_91_187, w_91_188, w_91_189, w_91_190, w_91_191, w_91_192, w_91_193, w_91_194, w_91_195, w_91_196, w_91_197, w_91_198, w_91_199, w_91_200, w_91_201, w_91_202, w_91_203, w_91_204, w_91_205, w_91_206, w_91_207, getK, putK, ialK, iasK, aalK, aasK, alnK, zgt_u, zgt_a, Option.toList_some, Option.toList_none, List.cons_append, List.nil_append, List.map_cons, List.map_nil, List.replicate, ite_true, ite_false, if_true, if_false, List.getElem?_cons_zero, List.getElem?_cons_succ, List.set_cons_zero, List.set_cons_succ, true_and, and_true, beq_self_eq_true, zite, Int.toNat_natCast, if_pos, if_neg, zwr_id, zand, p_rc p2, p_told p2 hz.1, t9, t0, t1, t2, true_or, or_true]
  first | exact ⟨rfl, p2⟩ | exact p2
end
