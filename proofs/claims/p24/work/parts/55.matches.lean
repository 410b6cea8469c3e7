/-! THE LAW'S MATCHES -/
theorem wo_at {z : zS} {k : Int} (h0 : 0 ≤ k) (hk : k < (z.S.1.length : Int)) : woS z k 0 = (gI z.S.1 k).2.1 ∧ woS z k 1 = (gI z.S.1 k).2.2 ∧ woS z k 2 = occ z.T z.n (gI z.S.1 k).2.1 := by
  unfold woS
  refine ⟨?_, ?_, ?_⟩
  · rw [if_pos ⟨h0, by omega, by omega⟩, if_neg (by omega), if_pos rfl]
  · rw [if_pos ⟨h0, by omega, by omega⟩, if_neg (by omega), if_neg (by omega), if_pos rfl]
  · rw [if_pos ⟨h0, by omega, by omega⟩, if_neg (by omega), if_neg (by omega), if_neg (by omega)]
def eF (z : zS) (i : Int) : Bool := decide (0 < ((mN z.S.1 z.T i 6 1).length : Int))
def f1F (z : zS) (i : Int) : Int := ((mN z.S.1 z.T i 6 1).length : Int)
def f2F (z : zS) (i : Int) : Int := wsum (mN z.S.1 z.T i 6 1)
def f4F (z : zS) (i : Int) : Int := zb (cvB (fun e => loD z.S.1 z.T e 6) i z.n 6 i = true)
section
variable {sc : Nat × (Int → Int)} {b1 b2 : Nat} {z z2 : zS} {c2 : Nat} {Q : Option zV → zH → Prop}
theorem lp_am8 {H : zH} {c : Nat} {L : List zI} {l6 l7 l8 l9 : Option zV} (hP : PP b1 b2 H z z2 c c2) (hz : okZ z) (hL : L = z.S.1) (hend : ∀ l5, zwp sc 94 55 [some (.inr (.inl (some b1))), some (.inl (ocL z.T z.n L)), some (.inl (owL z.T z.n L)), some (.inl (wsum L)), some (.inl (L.length : Int)), l5, l6, l7, l8, l9] [] H Q) : ∀ (S P : List zI), P ++ S = L → ∀ l5, zwp sc 94 8 [some (.inr (.inl (some b1))), some (.inl (ocL z.T z.n P)), some (.inl (owL z.T z.n P)), some (.inl (wsum P)), some (.inl (P.length : Int)), l5, l6, l7, l8, l9] [] H Q := by
  have h60 := hz.2.2.2.2.2.2.2.1
  have ho : okIs L := by rw [hL]; exact hz.1.1
  have hs : srtL L := by rw [hL]; exact hz.1.2.2.2.1
  have hl : L.length ≤ 24 := by rw [hL]; exact hz.1.2.2.2.2.1
  have t0 : toS z 0 = (L.length : Int) := by rw [hL]; rfl
  intro S
  induction S with
  | nil =>
    intro P hPS l5
    rw [List.append_nil] at hPS
    subst hPS
    rw [w_94_8]
    simp (disch := omega) only [e_94, w_94_9, w_94_10, w_94_11, w_94_12, getK, putK, ialK, iasK, aalK, aasK, alnK, zgt_u, zgt_a, Option.toList_some, Option.toList_none, List.cons_append, List.nil_append, List.map_cons, List.map_nil, List.replicate, ite_true, ite_false, if_true, if_false, List.getElem?_cons_zero, List.getElem?_cons_succ, List.set_cons_zero, List.set_cons_succ, true_and, and_true, beq_self_eq_true, zite, Int.toNat_natCast, if_pos, if_neg, zwr_id, zand, p_rc hP, p_told hP hz, t0]
    exact hend l5
  | cons x S ih =>
    intro P hPS l5
    have hx : x ∈ L := by rw [← hPS]; simp
    have hox := ho x hx
    have hw2 := hox.2.2.2
    have hlen : P.length + 1 + S.length = L.length := by rw [← hPS, List.length_append, List.length_cons]; omega
    have hoP : okIs P := fun y hy => ho y (by rw [← hPS]; exact List.mem_append_left _ hy)
    have b1 := ocL_b (T := z.T) h60 P
    have b2 := owL_b (T := z.T) h60 hoP
    have b3 := wsum_b hoP
    have hgx : gI L (P.length : Int) = x := by rw [← hPS]; exact gI_app
    obtain ⟨e0, e1, e2⟩ := wo_at (z := z) (k := (P.length : Int)) (by omega) (by rw [← hL]; omega)
    rw [← hL, hgx] at e0 e1 e2
    have d1 := occ_b (T := z.T) (c := x.2.1) h60
    have d2 := mul_bd d1.1 d1.2 hw2.1 hw2.2
    have hwx : wsum (P ++ [x]) = wsum P + x.2.2 := by rw [wsum_app]; show _ + (x.2.2 + 0) = _; omega
    have hlx : ((P ++ [x]).length : Int) = (P.length : Int) + 1 := by rw [List.length_append, List.length_singleton]; omega
    have hih := ih (P ++ [x]) (by rw [List.append_assoc]; exact hPS) (some (.inl (occ z.T z.n x.2.1)))
    rw [ocL_app, owL_app, hwx, hlx] at hih
    rw [w_94_8]
    by_cases hk : P.length = 0
    · simp (disch := omega) only [e_94, w_94_9, w_94_10, w_94_11, w_94_12, w_94_13, w_94_14, w_94_15, w_94_16, w_94_17, w_94_18, w_94_19, w_94_20, w_94_21, w_94_22, w_94_23, w_94_24, w_94_25, w_94_26, w_94_27, w_94_28, w_94_29, w_94_30, w_94_31, w_94_32, w_94_33, w_94_34, w_94_35, w_94_36, w_94_37, w_94_38, w_94_39, w_94_40, w_94_41, w_94_42, w_94_43, w_94_44, w_94_45, w_94_46, w_94_47, w_94_48, w_94_49, w_94_50, w_94_51, w_94_52, w_94_53, w_94_54, getK, putK, ialK, iasK, aalK, aasK, alnK, zgt_u, zgt_a, Option.toList_some, Option.toList_none, List.cons_append, List.nil_append, List.map_cons, List.map_nil, List.replicate, ite_true, ite_false, if_true, if_false, List.getElem?_cons_zero, List.getElem?_cons_succ, List.set_cons_zero, List.set_cons_succ, true_and, and_true, beq_self_eq_true, zite, Int.toNat_natCast, if_pos, if_neg, zwr_id, zand, p_rc hP, p_told hP hz, t0, p_word hP hz, e0, e1, e2]
      exact hih
    · obtain ⟨g0, -, -⟩ := wo_at (z := z) (k := (P.length : Int) - 1) (by omega) (by rw [← hL]; omega)
      rw [← hL] at g0
      have hlt : (gI L ((P.length : Int) - 1)).2.1 < x.2.1 := by
        obtain ⟨a1, a2⟩ := gI_mem (L := L) (k := (P.length : Int) - 1) (by omega) (by omega)
        obtain ⟨c1, c2⟩ := gI_mem (L := L) (k := (P.length : Int)) (by omega) (by omega)
        obtain ⟨x1, x2⟩ := List.getElem?_eq_some_iff.mp a1
        obtain ⟨y1, y2⟩ := List.getElem?_eq_some_iff.mp c1
        have := List.pairwise_iff_getElem.mp hs.2 _ _ x1 y1 (by omega)
        rw [x2, y2, hgx] at this
        exact this
      simp (disch := omega) only [e_94, w_94_9, w_94_10, w_94_11, w_94_12, w_94_13, w_94_14, w_94_15, w_94_16, w_94_17, w_94_18, w_94_19, w_94_20, w_94_21, w_94_22, w_94_23, w_94_24, w_94_25, w_94_26, w_94_27, w_94_28, w_94_29, w_94_30, w_94_31, w_94_32, w_94_33, w_94_34, w_94_35, w_94_36, w_94_37, w_94_38, w_94_39, w_94_40, w_94_41, w_94_42, w_94_43, w_94_44, w_94_45, w_94_46, w_94_47, w_94_48, w_94_49, w_94_50, w_94_51, w_94_52, w_94_53, w_94_54, getK, putK, ialK, iasK, aalK, aasK, alnK, zgt_u, zgt_a, Option.toList_some, Option.toList_none, List.cons_append, List.nil_append, List.map_cons, List.map_nil, List.replicate, ite_true, ite_false, if_true, if_false, List.getElem?_cons_zero, List.getElem?_cons_succ, List.set_cons_zero, List.set_cons_succ, true_and, and_true, beq_self_eq_true, zite, Int.toNat_natCast, if_pos, if_neg, zwr_id, zand, p_rc hP, p_told hP hz, t0, p_word hP hz, e0, e1, e2, g0]
      exact hih
theorem lp_am65 {H : zH} {c : Nat} {l1 l2 l3 l9 : Option zV} (hP : PP b1 b2 H z z2 c c2) (hz : okZ z) (hend : zwp sc 94 141 [some (.inr (.inl (some b1))), l1, l2, l3, some (.inl (sumF (f1F z) z.n.toNat 0)), some (.inl (sumF (f4F z) z.n.toNat 0)), some (.inl (sumF (f2F z) z.n.toNat 0)), some (.inl (cntF (eF z) z.n.toNat 0)), some (.inl z.n), l9] [] H Q) : ∀ (j m : Nat), m + j = z.n.toNat → zwp sc 94 65 [some (.inr (.inl (some b1))), l1, l2, l3, some (.inl (sumF (f1F z) m 0)), some (.inl (sumF (f4F z) m 0)), some (.inl (sumF (f2F z) m 0)), some (.inl (cntF (eF z) m 0)), some (.inl (m : Int)), l9] [] H Q := by
  have hT := hz.2.2.2.2.2.2
  have h00 := hT.1
  have h60 := hT.2.1
  have t7 : toS z 7 = z.n := rfl
  intro j
  induction j with
  | zero =>
    intro m hm
    have e : (m : Int) = z.n := by omega
    have e2 : m = z.n.toNat := by omega
    subst e2
    rw [w_94_65]
    simp (disch := omega) only [e_94, w_94_66, w_94_67, w_94_68, w_94_69, getK, putK, ialK, iasK, aalK, aasK, alnK, zgt_u, zgt_a, Option.toList_some, Option.toList_none, List.cons_append, List.nil_append, List.map_cons, List.map_nil, List.replicate, ite_true, ite_false, if_true, if_false, List.getElem?_cons_zero, List.getElem?_cons_succ, List.set_cons_zero, List.set_cons_succ, true_and, and_true, beq_self_eq_true, zite, Int.toNat_natCast, if_pos, if_neg, zwr_id, zand, p_rc hP, p_told hP hz, t7]
    rw [e]
    exact hend
  | succ j ih =>
    intro m hm
    have hih := ih (m + 1) (by omega)
    rw [sumF_r, sumF_r, sumF_r, cntF_r, Int.zero_add, show ((m + 1 : Nat) : Int) = (m : Int) + 1 by omega] at hih
    have v1 : atS z (m : Int) 1 = f1F z m := by
      unfold atS
      rw [if_pos (by omega), if_neg (by omega), if_pos rfl]
      rfl
    have v2 : atS z (m : Int) 2 = f2F z m := by
      unfold atS
      rw [if_pos (by omega), if_neg (by omega), if_neg (by omega), if_pos rfl]
      rfl
    have v3 : atS z (m : Int) 3 = (if loD z.S.1 z.T m 6 = 0 then -9999 else enT z.T (m + 1) (loD z.S.1 z.T m 6).toNat) := by
      unfold atS
      rw [if_pos (by omega), if_neg (by omega), if_neg (by omega), if_neg (by omega), if_pos rfl]
    have v4 : atS z (m : Int) 4 = f4F z m := by
      unfold atS
      rw [if_pos (by omega), if_neg (by omega), if_neg (by omega), if_neg (by omega), if_neg (by omega), if_pos rfl]
      rfl
    have hc := cntF_b (eF z) m 0
    have hfi : fnS z (cntF (eF z) m 0) 1 = fiF (eF z) (j + 1) m 0 := by
      have := fiF_sk (e := eF z) m (j + 1) 0 0 (Int.le_refl _)
      rw [Int.add_zero, Int.zero_add, hm] at this
      rw [← this]
      unfold fnS
      rw [if_pos ⟨hc.1, by omega, by omega⟩, if_neg (by omega), if_neg (by omega)]
      rfl
    have n1 := sumF_nn (f := f1F z) (K := 6) m 0 (fun k => by have := mN_len z.S.1 z.T k 6 1; unfold f1F; omega)
    have n4 := sumF_nn (f := f4F z) (K := 1) m 0 (fun k => zb_b _)
    have n2 := sumF_b (f := f2F z) (K := 594) (by omega) m 0 (fun k _ _ => by have := mN_w hz.1.1 z.T k 6 1; unfold f2F; omega)
    have w1 : 0 ≤ f1F z m ∧ f1F z m ≤ 6 := by have := mN_len z.S.1 z.T m 6 1; unfold f1F; omega
    have w2 : -594 ≤ f2F z m ∧ f2F z m ≤ 594 := by have := mN_w hz.1.1 z.T m 6 1; unfold f2F; omega
    have w4 : 0 ≤ f4F z m ∧ f4F z m ≤ 1 := zb_b _
    rw [w_94_65]
    rcases pos_ok hT hz.1.2.2.2.1 hz.1.1 (show 0 ≤ (m : Int) by omega) (show (m : Int) < z.n by omega) with ⟨p1, p2⟩ | ⟨p1, p2, p3, p4⟩
    · have p1 : f1F z m = 0 := p1
      have he : ¬ eF z m = true := by unfold eF; rw [decide_eq_true_eq]; show ¬ 0 < f1F z m; omega
      rw [if_neg he, Int.add_zero] at hih
      rw [if_pos p2] at v3
      simp (disch := omega) only [e_94, w_94_66, w_94_67, w_94_68, w_94_69, w_94_70, w_94_71, w_94_72, w_94_73, w_94_74, w_94_75, w_94_76, w_94_77, w_94_78, w_94_79, w_94_80, w_94_81, w_94_82, w_94_83, w_94_84, w_94_85, w_94_86, w_94_87, w_94_88, w_94_89, w_94_90, w_94_91, w_94_92, w_94_93, w_94_94, w_94_95, w_94_96, w_94_97, w_94_98, w_94_99, w_94_100, w_94_101, w_94_102, w_94_103, w_94_104, w_94_105, w_94_106, w_94_107, w_94_108, w_94_109, w_94_110, w_94_111, w_94_112, w_94_113, w_94_114, w_94_115, w_94_116, w_94_117, w_94_118, w_94_119, w_94_120, w_94_121, w_94_122, w_94_123, w_94_124, w_94_125, w_94_126, w_94_127, w_94_128, w_94_129, w_94_130, w_94_131, w_94_132, w_94_133, w_94_134, w_94_135, w_94_136, w_94_137, w_94_138, w_94_139, w_94_140, getK, putK, ialK, iasK, aalK, aasK, alnK, zgt_u, zgt_a, Option.toList_some, Option.toList_none, List.cons_append, List.nil_append, List.map_cons, List.map_nil, List.replicate, ite_true, ite_false, if_true, if_false, List.getElem?_cons_zero, List.getElem?_cons_succ, List.set_cons_zero, List.set_cons_succ, true_and, and_true, beq_self_eq_true, zite, Int.toNat_natCast, if_pos, if_neg, zwr_id, zand, p_rc hP, p_told hP hz, t7, p_at hP hz, v1, v2, v3, v4, p_find hP hz]
      exact hih
    · have p1 : 0 < f1F z m := p1
      have he : eF z m = true := by unfold eF; rw [decide_eq_true_eq]; exact p1
      have p5 : f4F z m = 1 := zb_t p4
      rw [if_pos he] at hih
      rw [if_neg (by omega)] at v3
      have hfm : fiF (eF z) (j + 1) m 0 = m := by
        show (if eF z m = true then (if (0 : Int) = 0 then (m : Int) else _) else _) = _
        rw [if_pos he, if_pos rfl]
      rw [hfm] at hfi
      rw [p5] at v4 hih
      simp (disch := omega) only [e_94, w_94_66, w_94_67, w_94_68, w_94_69, w_94_70, w_94_71, w_94_72, w_94_73, w_94_74, w_94_75, w_94_76, w_94_77, w_94_78, w_94_79, w_94_80, w_94_81, w_94_82, w_94_83, w_94_84, w_94_85, w_94_86, w_94_87, w_94_88, w_94_89, w_94_90, w_94_91, w_94_92, w_94_93, w_94_94, w_94_95, w_94_96, w_94_97, w_94_98, w_94_99, w_94_100, w_94_101, w_94_102, w_94_103, w_94_104, w_94_105, w_94_106, w_94_107, w_94_108, w_94_109, w_94_110, w_94_111, w_94_112, w_94_113, w_94_114, w_94_115, w_94_116, w_94_117, w_94_118, w_94_119, w_94_120, w_94_121, w_94_122, w_94_123, w_94_124, w_94_125, w_94_126, w_94_127, w_94_128, w_94_129, w_94_130, w_94_131, w_94_132, w_94_133, w_94_134, w_94_135, w_94_136, w_94_137, w_94_138, w_94_139, w_94_140, getK, putK, ialK, iasK, aalK, aasK, alnK, zgt_u, zgt_a, Option.toList_some, Option.toList_none, List.cons_append, List.nil_append, List.map_cons, List.map_nil, List.replicate, ite_true, ite_false, if_true, if_false, List.getElem?_cons_zero, List.getElem?_cons_succ, List.set_cons_zero, List.set_cons_succ, true_and, and_true, beq_self_eq_true, zite, Int.toNat_natCast, if_pos, if_neg, zwr_id, zand, p_rc hP, p_told hP hz, t7, p_at hP hz, v1, v2, v3, v4, p_find hP hz, hfi]
      exact hih
theorem am_219 {H : zH} {c : Nat} {l2 l3 l4 l5 l6 l7 l8 l9 : Option zV} (hP : PP b1 b2 H z z2 c c2) (hz : okZ z) (hQ : Q (some (.inl 1)) H) : zwp sc 94 219 [some (.inr (.inl (some b1))), some (.inl (mtS z)), l2, l3, l4, l5, l6, l7, l8, l9] [] H Q := by
  have hm := mtS_b hz
  by_cases h : mtS z = 0
  · have e : meS z = FP.fconst0 := by unfold meS; rw [if_pos h]
    have q : (Op.cmpValue (FP.fcmp FP.fconst0 FP.fconst0) .l).toInt = 0 := by decide +kernel
    simp (disch := omega) only [e_94, w_94_219, w_94_220, w_94_221, w_94_222, w_94_223, w_94_224, w_94_225, w_94_226, w_94_227, w_94_228, w_94_229, getK, putK, ialK, iasK, aalK, aasK, alnK, zgt_u, zgt_a, Option.toList_some, Option.toList_none, List.cons_append, List.nil_append, List.map_cons, List.map_nil, List.replicate, ite_true, ite_false, if_true, if_false, List.getElem?_cons_zero, List.getElem?_cons_succ, List.set_cons_zero, List.set_cons_succ, true_and, and_true, beq_self_eq_true, zite, Int.toNat_natCast, if_pos, if_neg, zwr_id, zand, p_rc hP, p_mean hP hz, e, q, true_or, or_true]
    exact hQ
  · simp (disch := omega) only [e_94, w_94_219, w_94_220, w_94_221, w_94_222, w_94_223, w_94_224, w_94_225, w_94_226, w_94_227, w_94_228, w_94_229, getK, putK, ialK, iasK, aalK, aasK, alnK, zgt_u, zgt_a, Option.toList_some, Option.toList_none, List.cons_append, List.nil_append, List.map_cons, List.map_nil, List.replicate, ite_true, ite_false, if_true, if_false, List.getElem?_cons_zero, List.getElem?_cons_succ, List.set_cons_zero, List.set_cons_succ, true_and, and_true, beq_self_eq_true, zite, Int.toNat_natCast, if_pos, if_neg, zwr_id, zand, p_rc hP, p_mean hP hz, true_or, or_true]
    exact hQ
theorem am_195 {H : zH} {c : Nat} {l2 l3 l4 l5 l6 l7 l8 l9 : Option zV} (hP : PP b1 b2 H z z2 c c2) (hz : okZ z) (hQ : Q (some (.inl 1)) H) : zwp sc 94 195 [some (.inr (.inl (some b1))), some (.inl (mtS z)), l2, l3, l4, l5, l6, l7, l8, l9] [] H Q := by
  have t0 : toS z 0 = (z.S.1.length : Int) := rfl
  have t7 : toS z 7 = z.n := rfl
  have e0 : woS z (z.S.1.length : Int) 0 = -9999 := by
    unfold woS
    rw [if_pos ⟨by omega, by omega, by omega⟩, if_pos (by omega)]
  have hv := hv_ok hz
  by_cases h : z.n = 0
  · have h3 := hv.mpr h
    simp (disch := omega) only [e_94, w_94_195, w_94_196, w_94_197, w_94_198, w_94_199, w_94_200, w_94_201, w_94_202, w_94_203, w_94_204, w_94_205, w_94_206, w_94_207, w_94_208, w_94_209, w_94_210, w_94_211, w_94_212, w_94_213, w_94_214, w_94_215, w_94_216, w_94_217, w_94_218, getK, putK, ialK, iasK, aalK, aasK, alnK, zgt_u, zgt_a, Option.toList_some, Option.toList_none, List.cons_append, List.nil_append, List.map_cons, List.map_nil, List.replicate, ite_true, ite_false, if_true, if_false, List.getElem?_cons_zero, List.getElem?_cons_succ, List.set_cons_zero, List.set_cons_succ, true_and, and_true, beq_self_eq_true, zite, Int.toNat_natCast, if_pos, if_neg, zwr_id, zand, p_rc hP, p_told hP hz, t0, t7, p_word hP hz, e0, p_totalE hP hz, true_or, or_true]
    exact am_219 hP hz hQ
  · have h3 : ¬ ttS z 3 = -9999 := fun q => h (hv.mp q)
    simp (disch := omega) only [e_94, w_94_195, w_94_196, w_94_197, w_94_198, w_94_199, w_94_200, w_94_201, w_94_202, w_94_203, w_94_204, w_94_205, w_94_206, w_94_207, w_94_208, w_94_209, w_94_210, w_94_211, w_94_212, w_94_213, w_94_214, w_94_215, w_94_216, w_94_217, w_94_218, getK, putK, ialK, iasK, aalK, aasK, alnK, zgt_u, zgt_a, Option.toList_some, Option.toList_none, List.cons_append, List.nil_append, List.map_cons, List.map_nil, List.replicate, ite_true, ite_false, if_true, if_false, List.getElem?_cons_zero, List.getElem?_cons_succ, List.set_cons_zero, List.set_cons_succ, true_and, and_true, beq_self_eq_true, zite, Int.toNat_natCast, if_pos, if_neg, zwr_id, zand, p_rc hP, p_told hP hz, t0, t7, p_word hP hz, e0, p_totalE hP hz, true_or, or_true]
    exact am_219 hP hz hQ
theorem l_areMatches {H : zH} {c : Nat} (hz : okZ z) (hP : PP b1 b2 H z z2 c c2) : ∃ H', PP b1 b2 H' z z2 (c + 3) c2 ∧ ∀ Q, zca sc 94 [.inr (.inl (some b1))] H Q = Q (some (.inl 1)) H' := by
  refine det_of ?_
  have hT := hz.2.2.2.2.2.2
  have h00 := hT.1
  have h60 := hT.2.1
  have hb := mtS_b hz
  have e0 : ttS z 0 = mtS z := rfl
  have e1 : ttS z 1 = wmS z := rfl
  have e2 : ttS z 2 = sumF (f4F z) z.n.toNat 0 := by
    show clR (fun e => loD z.S.1 z.T e 6) z.n.toNat 0 0 = _
    rw [clR_0 (fun k => (loD_b _ _ k 6).1) (fun k => (loD_b _ _ k 6).2) h00]
    rfl
  have s1 : sumF (f1F z) z.n.toNat 0 = mtS z := rfl
  have s2 : sumF (f2F z) z.n.toNat 0 = wmS z := rfl
  have t5 : toS z 5 = wsum z.S.1 := rfl
  have w1 := mt_words hz
  have w2 := wm_words hz
  have hc := cntF_b (eF z) z.n.toNat 0
  have hfi : fnS z (cntF (eF z) z.n.toNat 0) 1 = -9999 := by
    have := fiF_sk (e := eF z) z.n.toNat 0 0 0 (Int.le_refl _)
    rw [Int.add_zero, Nat.add_zero] at this
    unfold fnS
    rw [if_pos ⟨hc.1, by omega, by omega⟩, if_neg (by omega), if_neg (by omega)]
    exact this
  obtain ⟨g1, g2, g3⟩ := div_ok hz
  have go := lp_am8 (sc := sc) (H := H) (c := c) (L := z.S.1) (Q := fun r h => r = some (.inl 1) ∧ PP b1 b2 h z z2 (c + 3) c2) (l6 := none) (l7 := none) (l8 := none) (l9 := none) hP hz rfl (fun l5 => by
    have go2 := lp_am65 (sc := sc) (H := H) (c := c) (Q := fun r h => r = some (.inl 1) ∧ PP b1 b2 h z z2 (c + 3) c2) (l1 := some (.inl (ocL z.T z.n z.S.1))) (l2 := some (.inl (owL z.T z.n z.S.1))) (l3 := some (.inl (wsum z.S.1))) (l9 := none) hP hz (by
      rw [← w1, ← w2, s1, s2]
      obtain ⟨H1, a1, a2⟩ := p_total (sc := sc) (w := 4) hP hz
      obtain ⟨H2, d1, d2⟩ := p_total (sc := sc) (w := 5) a1 hz
      obtain ⟨H3, k1, k2⟩ := p_total (sc := sc) (w := 5) d1 hz
      by_cases hbest : ttS z 4 = 0
      · have h5 := g3 hbest
        simp (disch := omega) only [e_94, w_94_141, w_94_142, w_94_143, w_94_144, w_94_145, w_94_146, w_94_147, w_94_148, w_94_149, w_94_150, w_94_151, w_94_152, w_94_153, w_94_154, w_94_155, w_94_156, w_94_157, w_94_158, w_94_159, w_94_160, w_94_161, w_94_162, w_94_163, w_94_164, w_94_165, w_94_166, w_94_167, w_94_168, w_94_169, w_94_170, w_94_171, w_94_172, w_94_173, w_94_174, w_94_175, w_94_176, w_94_177, w_94_178, w_94_179, w_94_180, w_94_181, w_94_182, w_94_183, w_94_184, w_94_185, w_94_186, w_94_187, w_94_188, w_94_189, w_94_190, w_94_191, w_94_192, w_94_193, w_94_194, getK, putK, ialK, iasK, aalK, aasK, alnK, zgt_u, zgt_a, Option.toList_some, Option.toList_none, List.cons_append, List.nil_append, List.map_cons, List.map_nil, List.replicate, ite_true, ite_false, if_true, if_false, List.getElem?_cons_zero, List.getElem?_cons_succ, List.set_cons_zero, List.set_cons_succ, true_and, and_true, beq_self_eq_true, zite, Int.toNat_natCast, if_pos, if_neg, zwr_id, zand, p_rc hP, a2, p_rc a1, p_totalE a1 hz, e0, e1, e2, p_told a1 hz, t5, p_find a1 hz, hfi, true_or, or_true, d2, p_rc d1, k2]
        exact am_195 k1 hz ⟨rfl, k1⟩
      · simp (disch := omega) only [e_94, w_94_141, w_94_142, w_94_143, w_94_144, w_94_145, w_94_146, w_94_147, w_94_148, w_94_149, w_94_150, w_94_151, w_94_152, w_94_153, w_94_154, w_94_155, w_94_156, w_94_157, w_94_158, w_94_159, w_94_160, w_94_161, w_94_162, w_94_163, w_94_164, w_94_165, w_94_166, w_94_167, w_94_168, w_94_169, w_94_170, w_94_171, w_94_172, w_94_173, w_94_174, w_94_175, w_94_176, w_94_177, w_94_178, w_94_179, w_94_180, w_94_181, w_94_182, w_94_183, w_94_184, w_94_185, w_94_186, w_94_187, w_94_188, w_94_189, w_94_190, w_94_191, w_94_192, w_94_193, w_94_194, getK, putK, ialK, iasK, aalK, aasK, alnK, zgt_u, zgt_a, Option.toList_some, Option.toList_none, List.cons_append, List.nil_append, List.map_cons, List.map_nil, List.replicate, ite_true, ite_false, if_true, if_false, List.getElem?_cons_zero, List.getElem?_cons_succ, List.set_cons_zero, List.set_cons_succ, true_and, and_true, beq_self_eq_true, zite, Int.toNat_natCast, if_pos, if_neg, zwr_id, zand, p_rc hP, a2, p_rc a1, p_totalE a1 hz, e0, e1, e2, p_told a1 hz, t5, p_find a1 hz, hfi, true_or, or_true, d2, p_rc d1, k2]
        exact am_195 d1 hz ⟨rfl, PP_c d1⟩) z.n.toNat 0 (Nat.zero_add _)
    simp (disch := omega) only [e_94, w_94_55, w_94_56, w_94_57, w_94_58, w_94_59, w_94_60, w_94_61, w_94_62, w_94_63, w_94_64, getK, putK, ialK, iasK, aalK, aasK, alnK, zgt_u, zgt_a, Option.toList_some, Option.toList_none, List.cons_append, List.nil_append, List.map_cons, List.map_nil, List.replicate, ite_true, ite_false, if_true, if_false, List.getElem?_cons_zero, List.getElem?_cons_succ, List.set_cons_zero, List.set_cons_succ, true_and, and_true, beq_self_eq_true, zite, Int.toNat_natCast, if_pos, if_neg, zwr_id, zand]
    exact go2) z.S.1 [] (List.nil_append _) none
  simp (disch := omega) only [e_94, w_94_0, w_94_1, w_94_2, w_94_3, w_94_4, w_94_5, w_94_6, w_94_7, getK, putK, ialK, iasK, aalK, aasK, alnK, zgt_u, zgt_a, Option.toList_some, Option.toList_none, List.cons_append, List.nil_append, List.map_cons, List.map_nil, List.replicate, ite_true, ite_false, if_true, if_false, List.getElem?_cons_zero, List.getElem?_cons_succ, List.set_cons_zero, List.set_cons_succ, true_and, and_true, beq_self_eq_true, zite, Int.toNat_natCast, if_pos, if_neg, zwr_id, zand]
  exact go
end
