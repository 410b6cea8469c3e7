/-! THE CLASS ASKED -/
/-- groups in use -/
def guc (M : List zI) : Nat → Int → Int
  | 0, _ => 0
  | j + 1, g => (if 0 < cti g M then 1 else 0) + guc M j (g + 1)
theorem guc_b (M : List zI) : ∀ j g, 0 ≤ guc M j g ∧ guc M j g ≤ j
  | 0, _ => by simp [guc]
  | j + 1, g => by have := guc_b M j (g + 1); unfold guc; split <;> omega
theorem gus_guc {L M : List zI} (hs : srtI L) (hp : L.Perm M) : ∀ j g, gus L j g = guc M j g
  | 0, _ => rfl
  | j + 1, g => by unfold gus guc; rw [sto_cti hs, cti_perm hp, gus_guc hs hp j]
theorem wti_0 : ∀ {L : List zI}, (∀ x ∈ L, x.1 = 0) → wti 0 L = wsum L
  | [], _ => rfl
  | x :: L, h => by
    unfold wti wsum
    rw [if_pos (h x (by simp)), wti_0 (fun y hy => h y (by simp [hy]))]
def toS (z : zS) (w : Int) : Int := if w = 0 then z.S.1.length else if w = 1 then z.S.2.1.length else if w = 2 then z.S.2.2.1.length else if w = 3 then z.S.2.2.2.1 else if w = 4 then z.S.2.2.2.2 else if w = 5 then wsum z.S.1 else if w = 6 then nd z.p else if w = 7 then z.n else if w = 8 then z.H.length else if w = 9 then guc z.S.2.1 7 0 + guc z.S.2.2.1 7 0 else -1
def occ (T : Int → Int) (n c : Int) : Int := sumF (fun i => zb (enT T (i + 1) (nd c).toNat = c)) n.toNat 0
def woS (z : zS) (k w : Int) : Int := if 0 ≤ k ∧ 0 ≤ w ∧ w ≤ 2 then (if z.S.1.length ≤ k then -9999 else if w = 0 then (gI z.S.1 k).2.1 else if w = 1 then (gI z.S.1 k).2.2 else occ z.T z.n (gI z.S.1 k).2.1) else -1
/-- in order -/
def insS (x : zI) : List zI → List zI
  | [] => [x]
  | y :: L => if y.1 < x.1 ∨ (y.1 = x.1 ∧ (y.2.1 < x.2.1 ∨ (y.2.1 = x.2.1 ∧ y.2.2 < x.2.2))) then y :: insS x L else x :: y :: L
def srtF : List zI → List zI
  | [] => []
  | x :: L => insS x (srtF L)
theorem insS_perm (x : zI) : ∀ L, (insS x L).Perm (x :: L)
  | [] => List.Perm.refl _
  | y :: L => by
    unfold insS
    split
    · exact (List.Perm.cons y (insS_perm x L)).trans (List.Perm.swap x y L)
    · exact List.Perm.refl _
theorem srtF_perm : ∀ L, (srtF L).Perm L
  | [] => List.Perm.refl _
  | x :: L => (insS_perm x _).trans (List.Perm.cons x (srtF_perm L))
theorem insS_srt {x : zI} : ∀ {L}, srtI L → srtI (insS x L)
  | [], _ => List.pairwise_singleton _ _
  | y :: L, h => by
    obtain ⟨a1, a2⟩ := List.pairwise_cons.mp h
    unfold insS
    split
    next c =>
      refine List.pairwise_cons.mpr ⟨fun w hw => ?_, insS_srt a2⟩
      rcases List.mem_cons.mp ((insS_perm x L).mem_iff.mp hw) with rfl | hw
      · exact ltI_as c
      · exact a1 w hw
    next c =>
      refine List.pairwise_cons.mpr ⟨fun w hw => ?_, h⟩
      rcases List.mem_cons.mp hw with rfl | hw
      · exact c
      · exact nltI_tr c (a1 w hw)
theorem srtF_srt : ∀ L, srtI (srtF L)
  | [] => List.Pairwise.nil
  | _ :: L => insS_srt (srtF_srt L)
theorem srtF_eq {L M : List zI} (hs : srtI L) (hp : L.Perm M) : L = srtF M := srt_eq hs (srtF_srt M) (hp.trans (srtF_perm M).symm)
def famS (z : zS) (f : Int) : List zI := if f = 0 then z.S.2.1 else z.S.2.2.1
def itS (z : zS) (f g k w : Int) : Int := if ((0 ≤ f ∧ f ≤ 1) ∧ (0 ≤ g ∧ g ≤ 6)) ∧ 0 ≤ k ∧ 0 ≤ w ∧ w ≤ 1 then (if cti g (famS z f) ≤ k then -9999 else if w = 0 then (gI (srtF (famS z f)) (sto g (srtF (famS z f)) + k)).2.1 else (gI (srtF (famS z f)) (sto g (srtF (famS z f)) + k)).2.2) else -1
def atS (z : zS) (i w : Int) : Int := if 0 ≤ i ∧ i < z.n then (if w = 0 then z.T i else if w = 1 then ((mN z.S.1 z.T i 6 1).length : Int) else if w = 2 then wsum (mN z.S.1 z.T i 6 1) else if w = 3 then (if loD z.S.1 z.T i 6 = 0 then -9999 else enT z.T (i + 1) (loD z.S.1 z.T i 6).toNat) else if w = 4 then zb (cvB (fun e => loD z.S.1 z.T e 6) i z.n 6 i = true) else -1) else -1
/-- the l-th position from i on -/
def fiF (e : Int → Bool) : Nat → Int → Int → Int
  | 0, _, _ => -9999
  | j + 1, i, l => if e i = true then (if l = 0 then i else fiF e j (i + 1) (l - 1)) else fiF e j (i + 1) l
def fnS (z : zS) (k a : Int) : Int := if 0 ≤ k ∧ 0 ≤ a ∧ a ≤ 1 then (if a = 0 ∧ z.p = 0 then -2 else if a = 0 then fiF (fun i => decide (enT z.T (i + 1) (nd z.p).toNat = z.p)) z.n.toNat 0 k else fiF (fun i => decide (0 < ((mN z.S.1 z.T i 6 1).length : Int))) z.n.toNat 0 k) else -1
section
variable {sc : Nat × (Int → Int)} {h : zH} {Q : Option zV → zH → Prop} {z : zS} {c : Nat}
theorem s5_told {w : Int} (hC : rC h z c) (hz : okZ z) : zca sc 73 [.inr (.inl (some 0)), .inl w] h Q = Q (some (.inl (toS z w))) h := by
  obtain ⟨c0, c1, c2, ⟨a, nx, o, D, q0, q1, q2, q3, q4, q5, q6, q7⟩, -⟩ := id hC
  obtain ⟨-, ⟨g, gH, -⟩, -⟩ := id q0
  have hrc : ∀ as, zrecv h 1 (.inr (.inl (some 18)) :: as) = true := fun as => zrc gH.1
  have hp := okZ_p hz
  have hok := hz.1
  obtain ⟨o1, o2, o3, o4, o5, o6, o7, -⟩ := hok
  obtain ⟨m0, m1, ⟨l2, m2, m2s, m2p⟩, ⟨l3, m3, m3s, m3p⟩⟩ := id c2
  have e2 := m2p.length_eq
  have e3 := m3p.length_eq
  have w0 := wti_0 o4.1
  have g2 := gus_guc m2s m2p 7 0
  have g3 := gus_guc m3s m3p 7 0
  have b2 := guc_b z.S.2.1 7 0
  have b3 := guc_b z.S.2.2.1 7 0
  unfold toS
  by_cases k0 : w = 0
  · subst k0
    simp (disch := omega) only [e_73, w_73_0, w_73_1, w_73_2, w_73_3, w_73_4, w_73_5, w_73_6, w_73_7, w_73_8, w_73_9, w_73_10, w_73_11, w_73_12, w_73_13, w_73_14, w_73_15, w_73_16, w_73_17, w_73_18, w_73_19, w_73_20, w_73_21, w_73_22, w_73_23, w_73_24, w_73_25, w_73_26, w_73_27, w_73_28, w_73_29, w_73_30, w_73_31, w_73_32, w_73_33, w_73_34, w_73_35, w_73_36, w_73_37, w_73_38, w_73_39, w_73_40, w_73_41, w_73_42, w_73_43, w_73_44, w_73_45, w_73_46, w_73_47, w_73_48, w_73_49, w_73_50, w_73_51, w_73_52, w_73_53, w_73_54, w_73_55, w_73_56, w_73_57, w_73_58, getK, putK, ialK, iasK, aalK, aasK, alnK, zgt_u, zgt_a, Option.toList_some, Option.toList_none, List.cons_append, List.nil_append, List.map_cons, List.map_nil, List.replicate, ite_true, ite_false, if_true, if_false, List.getElem?_cons_zero, List.getElem?_cons_succ, List.set_cons_zero, List.set_cons_succ, true_and, and_true, beq_self_eq_true, zite, Int.toNat_natCast, if_pos, if_neg, zwr_id, zand, c0, rDt_rc c2, s_live c2, rIt_rc m1, s_size2 m1]
  by_cases k1 : w = 1
  · subst k1
    simp (disch := omega) only [e_73, w_73_0, w_73_1, w_73_2, w_73_3, w_73_4, w_73_5, w_73_6, w_73_7, w_73_8, w_73_9, w_73_10, w_73_11, w_73_12, w_73_13, w_73_14, w_73_15, w_73_16, w_73_17, w_73_18, w_73_19, w_73_20, w_73_21, w_73_22, w_73_23, w_73_24, w_73_25, w_73_26, w_73_27, w_73_28, w_73_29, w_73_30, w_73_31, w_73_32, w_73_33, w_73_34, w_73_35, w_73_36, w_73_37, w_73_38, w_73_39, w_73_40, w_73_41, w_73_42, w_73_43, w_73_44, w_73_45, w_73_46, w_73_47, w_73_48, w_73_49, w_73_50, w_73_51, w_73_52, w_73_53, w_73_54, w_73_55, w_73_56, w_73_57, w_73_58, getK, putK, ialK, iasK, aalK, aasK, alnK, zgt_u, zgt_a, Option.toList_some, Option.toList_none, List.cons_append, List.nil_append, List.map_cons, List.map_nil, List.replicate, ite_true, ite_false, if_true, if_false, List.getElem?_cons_zero, List.getElem?_cons_succ, List.set_cons_zero, List.set_cons_succ, true_and, and_true, beq_self_eq_true, zite, Int.toNat_natCast, if_pos, if_neg, zwr_id, zand, c0, rDt_rc c2, s_family0 c2, rIt_rc m2, s_size2 m2, e2]
  by_cases k2 : w = 2
  · subst k2
    simp (disch := omega) only [e_73, w_73_0, w_73_1, w_73_2, w_73_3, w_73_4, w_73_5, w_73_6, w_73_7, w_73_8, w_73_9, w_73_10, w_73_11, w_73_12, w_73_13, w_73_14, w_73_15, w_73_16, w_73_17, w_73_18, w_73_19, w_73_20, w_73_21, w_73_22, w_73_23, w_73_24, w_73_25, w_73_26, w_73_27, w_73_28, w_73_29, w_73_30, w_73_31, w_73_32, w_73_33, w_73_34, w_73_35, w_73_36, w_73_37, w_73_38, w_73_39, w_73_40, w_73_41, w_73_42, w_73_43, w_73_44, w_73_45, w_73_46, w_73_47, w_73_48, w_73_49, w_73_50, w_73_51, w_73_52, w_73_53, w_73_54, w_73_55, w_73_56, w_73_57, w_73_58, getK, putK, ialK, iasK, aalK, aasK, alnK, zgt_u, zgt_a, Option.toList_some, Option.toList_none, List.cons_append, List.nil_append, List.map_cons, List.map_nil, List.replicate, ite_true, ite_false, if_true, if_false, List.getElem?_cons_zero, List.getElem?_cons_succ, List.set_cons_zero, List.set_cons_succ, true_and, and_true, beq_self_eq_true, zite, Int.toNat_natCast, if_pos, if_neg, zwr_id, zand, c0, rDt_rc c2, s_family1 c2, rIt_rc m3, s_size2 m3, e3]
  by_cases k3 : w = 3
  · subst k3
    simp (disch := omega) only [e_73, w_73_0, w_73_1, w_73_2, w_73_3, w_73_4, w_73_5, w_73_6, w_73_7, w_73_8, w_73_9, w_73_10, w_73_11, w_73_12, w_73_13, w_73_14, w_73_15, w_73_16, w_73_17, w_73_18, w_73_19, w_73_20, w_73_21, w_73_22, w_73_23, w_73_24, w_73_25, w_73_26, w_73_27, w_73_28, w_73_29, w_73_30, w_73_31, w_73_32, w_73_33, w_73_34, w_73_35, w_73_36, w_73_37, w_73_38, w_73_39, w_73_40, w_73_41, w_73_42, w_73_43, w_73_44, w_73_45, w_73_46, w_73_47, w_73_48, w_73_49, w_73_50, w_73_51, w_73_52, w_73_53, w_73_54, w_73_55, w_73_56, w_73_57, w_73_58, getK, putK, ialK, iasK, aalK, aasK, alnK, zgt_u, zgt_a, Option.toList_some, Option.toList_none, List.cons_append, List.nil_append, List.map_cons, List.map_nil, List.replicate, ite_true, ite_false, if_true, if_false, List.getElem?_cons_zero, List.getElem?_cons_succ, List.set_cons_zero, List.set_cons_succ, true_and, and_true, beq_self_eq_true, zite, Int.toNat_natCast, if_pos, if_neg, zwr_id, zand, c0, rDt_rc c2, s_costs c2]
  by_cases k4 : w = 4
  · subst k4
    simp (disch := omega) only [e_73, w_73_0, w_73_1, w_73_2, w_73_3, w_73_4, w_73_5, w_73_6, w_73_7, w_73_8, w_73_9, w_73_10, w_73_11, w_73_12, w_73_13, w_73_14, w_73_15, w_73_16, w_73_17, w_73_18, w_73_19, w_73_20, w_73_21, w_73_22, w_73_23, w_73_24, w_73_25, w_73_26, w_73_27, w_73_28, w_73_29, w_73_30, w_73_31, w_73_32, w_73_33, w_73_34, w_73_35, w_73_36, w_73_37, w_73_38, w_73_39, w_73_40, w_73_41, w_73_42, w_73_43, w_73_44, w_73_45, w_73_46, w_73_47, w_73_48, w_73_49, w_73_50, w_73_51, w_73_52, w_73_53, w_73_54, w_73_55, w_73_56, w_73_57, w_73_58, getK, putK, ialK, iasK, aalK, aasK, alnK, zgt_u, zgt_a, Option.toList_some, Option.toList_none, List.cons_append, List.nil_append, List.map_cons, List.map_nil, List.replicate, ite_true, ite_false, if_true, if_false, List.getElem?_cons_zero, List.getElem?_cons_succ, List.set_cons_zero, List.set_cons_succ, true_and, and_true, beq_self_eq_true, zite, Int.toNat_natCast, if_pos, if_neg, zwr_id, zand, c0, rDt_rc c2, s_rebuildings c2]
  by_cases k5 : w = 5
  · subst k5
    simp (disch := omega) only [e_73, w_73_0, w_73_1, w_73_2, w_73_3, w_73_4, w_73_5, w_73_6, w_73_7, w_73_8, w_73_9, w_73_10, w_73_11, w_73_12, w_73_13, w_73_14, w_73_15, w_73_16, w_73_17, w_73_18, w_73_19, w_73_20, w_73_21, w_73_22, w_73_23, w_73_24, w_73_25, w_73_26, w_73_27, w_73_28, w_73_29, w_73_30, w_73_31, w_73_32, w_73_33, w_73_34, w_73_35, w_73_36, w_73_37, w_73_38, w_73_39, w_73_40, w_73_41, w_73_42, w_73_43, w_73_44, w_73_45, w_73_46, w_73_47, w_73_48, w_73_49, w_73_50, w_73_51, w_73_52, w_73_53, w_73_54, w_73_55, w_73_56, w_73_57, w_73_58, getK, putK, ialK, iasK, aalK, aasK, alnK, zgt_u, zgt_a, Option.toList_some, Option.toList_none, List.cons_append, List.nil_append, List.map_cons, List.map_nil, List.replicate, ite_true, ite_false, if_true, if_false, List.getElem?_cons_zero, List.getElem?_cons_succ, List.set_cons_zero, List.set_cons_succ, true_and, and_true, beq_self_eq_true, zite, Int.toNat_natCast, if_pos, if_neg, zwr_id, zand, c0, rDt_rc c2, s_live c2, rIt_rc m1, s_weightsIn m1 (by omega) o1, w0]
  by_cases k6 : w = 6
  · subst k6
    simp (disch := omega) only [e_73, w_73_0, w_73_1, w_73_2, w_73_3, w_73_4, w_73_5, w_73_6, w_73_7, w_73_8, w_73_9, w_73_10, w_73_11, w_73_12, w_73_13, w_73_14, w_73_15, w_73_16, w_73_17, w_73_18, w_73_19, w_73_20, w_73_21, w_73_22, w_73_23, w_73_24, w_73_25, w_73_26, w_73_27, w_73_28, w_73_29, w_73_30, w_73_31, w_73_32, w_73_33, w_73_34, w_73_35, w_73_36, w_73_37, w_73_38, w_73_39, w_73_40, w_73_41, w_73_42, w_73_43, w_73_44, w_73_45, w_73_46, w_73_47, w_73_48, w_73_49, w_73_50, w_73_51, w_73_52, w_73_53, w_73_54, w_73_55, w_73_56, w_73_57, w_73_58, getK, putK, ialK, iasK, aalK, aasK, alnK, zgt_u, zgt_a, Option.toList_some, Option.toList_none, List.cons_append, List.nil_append, List.map_cons, List.map_nil, List.replicate, ite_true, ite_false, if_true, if_false, List.getElem?_cons_zero, List.getElem?_cons_succ, List.set_cons_zero, List.set_cons_succ, true_and, and_true, beq_self_eq_true, zite, Int.toNat_natCast, if_pos, if_neg, zwr_id, zand, c0, s_lettersOf5]
  by_cases k7 : w = 7
  · subst k7
    simp (disch := omega) only [e_73, w_73_0, w_73_1, w_73_2, w_73_3, w_73_4, w_73_5, w_73_6, w_73_7, w_73_8, w_73_9, w_73_10, w_73_11, w_73_12, w_73_13, w_73_14, w_73_15, w_73_16, w_73_17, w_73_18, w_73_19, w_73_20, w_73_21, w_73_22, w_73_23, w_73_24, w_73_25, w_73_26, w_73_27, w_73_28, w_73_29, w_73_30, w_73_31, w_73_32, w_73_33, w_73_34, w_73_35, w_73_36, w_73_37, w_73_38, w_73_39, w_73_40, w_73_41, w_73_42, w_73_43, w_73_44, w_73_45, w_73_46, w_73_47, w_73_48, w_73_49, w_73_50, w_73_51, w_73_52, w_73_53, w_73_54, w_73_55, w_73_56, w_73_57, w_73_58, getK, putK, ialK, iasK, aalK, aasK, alnK, zgt_u, zgt_a, Option.toList_some, Option.toList_none, List.cons_append, List.nil_append, List.map_cons, List.map_nil, List.replicate, ite_true, ite_false, if_true, if_false, List.getElem?_cons_zero, List.getElem?_cons_succ, List.set_cons_zero, List.set_cons_succ, true_and, and_true, beq_self_eq_true, zite, Int.toNat_natCast, if_pos, if_neg, zwr_id, zand, c0, rTx_rc c1, s_length c1]
  by_cases k8 : w = 8
  · subst k8
    simp (disch := omega) only [e_73, w_73_0, w_73_1, w_73_2, w_73_3, w_73_4, w_73_5, w_73_6, w_73_7, w_73_8, w_73_9, w_73_10, w_73_11, w_73_12, w_73_13, w_73_14, w_73_15, w_73_16, w_73_17, w_73_18, w_73_19, w_73_20, w_73_21, w_73_22, w_73_23, w_73_24, w_73_25, w_73_26, w_73_27, w_73_28, w_73_29, w_73_30, w_73_31, w_73_32, w_73_33, w_73_34, w_73_35, w_73_36, w_73_37, w_73_38, w_73_39, w_73_40, w_73_41, w_73_42, w_73_43, w_73_44, w_73_45, w_73_46, w_73_47, w_73_48, w_73_49, w_73_50, w_73_51, w_73_52, w_73_53, w_73_54, w_73_55, w_73_56, w_73_57, w_73_58, getK, putK, ialK, iasK, aalK, aasK, alnK, zgt_u, zgt_a, Option.toList_some, Option.toList_none, List.cons_append, List.nil_append, List.map_cons, List.map_nil, List.replicate, ite_true, ite_false, if_true, if_false, List.getElem?_cons_zero, List.getElem?_cons_succ, List.set_cons_zero, List.set_cons_succ, true_and, and_true, beq_self_eq_true, zite, Int.toNat_natCast, if_pos, if_neg, zwr_id, zand, c0, hrc, s_hsize gH]
  by_cases k9 : w = 9
  · subst k9
    simp (disch := omega) only [e_73, w_73_0, w_73_1, w_73_2, w_73_3, w_73_4, w_73_5, w_73_6, w_73_7, w_73_8, w_73_9, w_73_10, w_73_11, w_73_12, w_73_13, w_73_14, w_73_15, w_73_16, w_73_17, w_73_18, w_73_19, w_73_20, w_73_21, w_73_22, w_73_23, w_73_24, w_73_25, w_73_26, w_73_27, w_73_28, w_73_29, w_73_30, w_73_31, w_73_32, w_73_33, w_73_34, w_73_35, w_73_36, w_73_37, w_73_38, w_73_39, w_73_40, w_73_41, w_73_42, w_73_43, w_73_44, w_73_45, w_73_46, w_73_47, w_73_48, w_73_49, w_73_50, w_73_51, w_73_52, w_73_53, w_73_54, w_73_55, w_73_56, w_73_57, w_73_58, getK, putK, ialK, iasK, aalK, aasK, alnK, zgt_u, zgt_a, Option.toList_some, Option.toList_none, List.cons_append, List.nil_append, List.map_cons, List.map_nil, List.replicate, ite_true, ite_false, if_true, if_false, List.getElem?_cons_zero, List.getElem?_cons_succ, List.set_cons_zero, List.set_cons_succ, true_and, and_true, beq_self_eq_true, zite, Int.toNat_natCast, if_pos, if_neg, zwr_id, zand, c0, rDt_rc c2, s_family0 c2, s_family1 c2, rIt_rc m2, rIt_rc m3, s_groupsInUse m2 (by omega), s_groupsInUse m3 (by omega), g2, g3]
  simp (disch := omega) only [e_73, w_73_0, w_73_1, w_73_2, w_73_3, w_73_4, w_73_5, w_73_6, w_73_7, w_73_8, w_73_9, w_73_10, w_73_11, w_73_12, w_73_13, w_73_14, w_73_15, w_73_16, w_73_17, w_73_18, w_73_19, w_73_20, w_73_21, w_73_22, w_73_23, w_73_24, w_73_25, w_73_26, w_73_27, w_73_28, w_73_29, w_73_30, w_73_31, w_73_32, w_73_33, w_73_34, w_73_35, w_73_36, w_73_37, w_73_38, w_73_39, w_73_40, w_73_41, w_73_42, w_73_43, w_73_44, w_73_45, w_73_46, w_73_47, w_73_48, w_73_49, w_73_50, w_73_51, w_73_52, w_73_53, w_73_54, w_73_55, w_73_56, w_73_57, w_73_58, getK, putK, ialK, iasK, aalK, aasK, alnK, zgt_u, zgt_a, Option.toList_some, Option.toList_none, List.cons_append, List.nil_append, List.map_cons, List.map_nil, List.replicate, ite_true, ite_false, if_true, if_false, List.getElem?_cons_zero, List.getElem?_cons_succ, List.set_cons_zero, List.set_cons_succ, true_and, and_true, beq_self_eq_true, zite, Int.toNat_natCast, if_pos, if_neg, zwr_id, zand, c0]
theorem s5_word {k w : Int} (hC : rC h z c) (hz : okZ z) : zca sc 74 [.inr (.inl (some 0)), .inl k, .inl w] h Q = Q (some (.inl (woS z k w))) h := by
  obtain ⟨c0, c1, c2, -⟩ := id hC
  obtain ⟨o1, o2, o3, o4, o5, -⟩ := id hz.1
  have hT := hz.2.2.2.2.2.2
  have m1 := c2.2.1
  unfold woS
  by_cases h1 : 0 ≤ k
  · by_cases h2 : 0 ≤ w
    · by_cases h3 : w ≤ 2
      · rw [if_pos ⟨h1, h2, h3⟩]
        by_cases h4 : z.S.1.length ≤ k
        · simp (disch := omega) only [e_74, w_74_0, w_74_1, w_74_2, w_74_3, w_74_4, w_74_5, w_74_6, w_74_7, w_74_8, w_74_9, w_74_10, w_74_11, w_74_12, w_74_13, w_74_14, w_74_15, w_74_16, w_74_17, w_74_18, w_74_19, w_74_20, w_74_21, w_74_22, w_74_23, w_74_24, w_74_25, w_74_26, w_74_27, w_74_28, w_74_29, w_74_30, w_74_31, w_74_32, w_74_33, w_74_34, w_74_35, getK, putK, ialK, iasK, aalK, aasK, alnK, zgt_u, zgt_a, Option.toList_some, Option.toList_none, List.cons_append, List.nil_append, List.map_cons, List.map_nil, List.replicate, ite_true, ite_false, if_true, if_false, List.getElem?_cons_zero, List.getElem?_cons_succ, List.set_cons_zero, List.set_cons_succ, true_and, and_true, beq_self_eq_true, zite, Int.toNat_natCast, if_pos, if_neg, zwr_id, zand, c0, rDt_rc c2, s_live c2, rIt_rc m1, s_size2 m1]
        · have hx : (gI z.S.1 k) ∈ z.S.1 := by
            unfold gI
            rw [if_pos h1, List.getD_eq_getElem?_getD, List.getElem?_eq_getElem (by omega)]
            exact List.getElem_mem _
          have hw := (o1 _ hx).2.2.1.2.1
          by_cases k0 : w = 0
          · subst k0
            simp (disch := omega) only [e_74, w_74_0, w_74_1, w_74_2, w_74_3, w_74_4, w_74_5, w_74_6, w_74_7, w_74_8, w_74_9, w_74_10, w_74_11, w_74_12, w_74_13, w_74_14, w_74_15, w_74_16, w_74_17, w_74_18, w_74_19, w_74_20, w_74_21, w_74_22, w_74_23, w_74_24, w_74_25, w_74_26, w_74_27, w_74_28, w_74_29, w_74_30, w_74_31, w_74_32, w_74_33, w_74_34, w_74_35, getK, putK, ialK, iasK, aalK, aasK, alnK, zgt_u, zgt_a, Option.toList_some, Option.toList_none, List.cons_append, List.nil_append, List.map_cons, List.map_nil, List.replicate, ite_true, ite_false, if_true, if_false, List.getElem?_cons_zero, List.getElem?_cons_succ, List.set_cons_zero, List.set_cons_succ, true_and, and_true, beq_self_eq_true, zite, Int.toNat_natCast, if_pos, if_neg, zwr_id, zand, c0, rDt_rc c2, s_live c2, rIt_rc m1, s_size2 m1, s_codeAt2 m1]
          by_cases k1 : w = 1
          · subst k1
            simp (disch := omega) only [e_74, w_74_0, w_74_1, w_74_2, w_74_3, w_74_4, w_74_5, w_74_6, w_74_7, w_74_8, w_74_9, w_74_10, w_74_11, w_74_12, w_74_13, w_74_14, w_74_15, w_74_16, w_74_17, w_74_18, w_74_19, w_74_20, w_74_21, w_74_22, w_74_23, w_74_24, w_74_25, w_74_26, w_74_27, w_74_28, w_74_29, w_74_30, w_74_31, w_74_32, w_74_33, w_74_34, w_74_35, getK, putK, ialK, iasK, aalK, aasK, alnK, zgt_u, zgt_a, Option.toList_some, Option.toList_none, List.cons_append, List.nil_append, List.map_cons, List.map_nil, List.replicate, ite_true, ite_false, if_true, if_false, List.getElem?_cons_zero, List.getElem?_cons_succ, List.set_cons_zero, List.set_cons_succ, true_and, and_true, beq_self_eq_true, zite, Int.toNat_natCast, if_pos, if_neg, zwr_id, zand, c0, rDt_rc c2, s_live c2, rIt_rc m1, s_size2 m1, s_weightAt2 m1]
          simp (disch := omega) only [e_74, w_74_0, w_74_1, w_74_2, w_74_3, w_74_4, w_74_5, w_74_6, w_74_7, w_74_8, w_74_9, w_74_10, w_74_11, w_74_12, w_74_13, w_74_14, w_74_15, w_74_16, w_74_17, w_74_18, w_74_19, w_74_20, w_74_21, w_74_22, w_74_23, w_74_24, w_74_25, w_74_26, w_74_27, w_74_28, w_74_29, w_74_30, w_74_31, w_74_32, w_74_33, w_74_34, w_74_35, getK, putK, ialK, iasK, aalK, aasK, alnK, zgt_u, zgt_a, Option.toList_some, Option.toList_none, List.cons_append, List.nil_append, List.map_cons, List.map_nil, List.replicate, ite_true, ite_false, if_true, if_false, List.getElem?_cons_zero, List.getElem?_cons_succ, List.set_cons_zero, List.set_cons_succ, true_and, and_true, beq_self_eq_true, zite, Int.toNat_natCast, if_pos, if_neg, zwr_id, zand, c0, rDt_rc c2, s_live c2, rIt_rc m1, s_size2 m1, s_codeAt2 m1, rTx_rc c1, s_occ c1 hT]
          rfl
      · rw [if_neg (fun q => h3 q.2.2)]
        simp (disch := omega) only [e_74, w_74_0, w_74_1, w_74_2, w_74_3, w_74_4, w_74_5, w_74_6, w_74_7, w_74_8, w_74_9, w_74_10, w_74_11, w_74_12, w_74_13, w_74_14, w_74_15, w_74_16, w_74_17, w_74_18, w_74_19, w_74_20, w_74_21, w_74_22, w_74_23, w_74_24, w_74_25, w_74_26, w_74_27, w_74_28, w_74_29, w_74_30, w_74_31, w_74_32, w_74_33, w_74_34, w_74_35, getK, putK, ialK, iasK, aalK, aasK, alnK, zgt_u, zgt_a, Option.toList_some, Option.toList_none, List.cons_append, List.nil_append, List.map_cons, List.map_nil, List.replicate, ite_true, ite_false, if_true, if_false, List.getElem?_cons_zero, List.getElem?_cons_succ, List.set_cons_zero, List.set_cons_succ, true_and, and_true, beq_self_eq_true, zite, Int.toNat_natCast, if_pos, if_neg, zwr_id, zand, c0]
    · rw [if_neg (fun q => h2 q.2.1)]
      simp (disch := omega) only [e_74, w_74_0, w_74_1, w_74_2, w_74_3, w_74_4, w_74_5, w_74_6, w_74_7, w_74_8, w_74_9, w_74_10, w_74_11, w_74_12, w_74_13, w_74_14, w_74_15, w_74_16, w_74_17, w_74_18, w_74_19, w_74_20, w_74_21, w_74_22, w_74_23, w_74_24, w_74_25, w_74_26, w_74_27, w_74_28, w_74_29, w_74_30, w_74_31, w_74_32, w_74_33, w_74_34, w_74_35, getK, putK, ialK, iasK, aalK, aasK, alnK, zgt_u, zgt_a, Option.toList_some, Option.toList_none, List.cons_append, List.nil_append, List.map_cons, List.map_nil, List.replicate, ite_true, ite_false, if_true, if_false, List.getElem?_cons_zero, List.getElem?_cons_succ, List.set_cons_zero, List.set_cons_succ, true_and, and_true, beq_self_eq_true, zite, Int.toNat_natCast, if_pos, if_neg, zwr_id, zand, c0]
  · rw [if_neg (fun q => h1 q.1)]
    simp (disch := omega) only [e_74, w_74_0, w_74_1, w_74_2, w_74_3, w_74_4, w_74_5, w_74_6, w_74_7, w_74_8, w_74_9, w_74_10, w_74_11, w_74_12, w_74_13, w_74_14, w_74_15, w_74_16, w_74_17, w_74_18, w_74_19, w_74_20, w_74_21, w_74_22, w_74_23, w_74_24, w_74_25, w_74_26, w_74_27, w_74_28, w_74_29, w_74_30, w_74_31, w_74_32, w_74_33, w_74_34, w_74_35, getK, putK, ialK, iasK, aalK, aasK, alnK, zgt_u, zgt_a, Option.toList_some, Option.toList_none, List.cons_append, List.nil_append, List.map_cons, List.map_nil, List.replicate, ite_true, ite_false, if_true, if_false, List.getElem?_cons_zero, List.getElem?_cons_succ, List.set_cons_zero, List.set_cons_succ, true_and, and_true, beq_self_eq_true, zite, Int.toNat_natCast, if_pos, if_neg, zwr_id, zand, c0]
/-- a family of the class -/
theorem fam_C {f : Int} (hC : rC h z c) (hz : okZ z) (hf : 0 ≤ f ∧ f ≤ 1) : ∃ bI, (bI = 10 ∨ bI = 14) ∧ rIt h bI (srtF (famS z f)) ∧ (famS z f).length ≤ 48 ∧ (srtF (famS z f)).length ≤ 48 ∧ okIs (srtF (famS z f)) ∧ ∀ Q : Option zV → zH → Prop, zca sc 2 [.inr (.inl (some 5)), .inl f] h Q = Q (some (.inr (.inl (some bI)))) h := by
  have c2 := hC.2.2.1
  obtain ⟨o1, o2, o3, o4, o5, o6, o7, -⟩ := id hz.1
  obtain ⟨m0, m1, ⟨l2, m2, m2s, m2p⟩, ⟨l3, m3, m3s, m3p⟩⟩ := id c2
  unfold famS
  by_cases e : f = 0
  · subst e
    rw [if_pos rfl, ← srtF_eq m2s m2p]
    have := m2p.length_eq
    exact ⟨10, Or.inl rfl, m2, by omega, by omega, okIs_perm m2p.symm o2, fun Q => s_family0 c2⟩
  · have e : f = 1 := by omega
    subst e
    rw [if_neg (by omega), ← srtF_eq m3s m3p]
    have := m3p.length_eq
    exact ⟨14, Or.inr rfl, m3, by omega, by omega, okIs_perm m3p.symm o3, fun Q => s_family1 c2⟩
theorem cti_F (g : Int) (M : List zI) : sto (g + 1) (srtF M) - sto g (srtF M) = cti g M := by rw [sto_cti (srtF_srt M), cti_perm (srtF_perm M)]
theorem s5_item {f g k w : Int} (hC : rC h z c) (hz : okZ z) : zca sc 76 [.inr (.inl (some 0)), .inl f, .inl g, .inl k, .inl w] h Q = Q (some (.inl (itS z f g k w))) h := by
  obtain ⟨c0, c1, c2, -⟩ := id hC
  unfold itS
  by_cases h0 : (0 ≤ f ∧ f ≤ 1) ∧ (0 ≤ g ∧ g ≤ 6)
  · by_cases h1 : 0 ≤ k
    · by_cases h2 : 0 ≤ w
      · by_cases h3 : w ≤ 1
        · rw [if_pos ⟨h0, h1, h2, h3⟩]
          obtain ⟨bI, -, b1, b2, b3, b4, b5⟩ := fam_C (sc := sc) hC hz h0.1
          have e1 := cti_F g (famS z f)
          have e2 := sto_b (g + 1) (srtF (famS z f))
          have e3 := sto_b g (srtF (famS z f))
          by_cases h4 : cti g (famS z f) ≤ k
          · simp (disch := omega) only [e_76, w_76_0, w_76_1, w_76_2, w_76_3, w_76_4, w_76_5, w_76_6, w_76_7, w_76_8, w_76_9, w_76_10, w_76_11, w_76_12, w_76_13, w_76_14, w_76_15, w_76_16, w_76_17, w_76_18, w_76_19, w_76_20, w_76_21, w_76_22, w_76_23, w_76_24, w_76_25, w_76_26, w_76_27, w_76_28, w_76_29, w_76_30, w_76_31, w_76_32, w_76_33, w_76_34, w_76_35, w_76_36, w_76_37, w_76_38, w_76_39, w_76_40, getK, putK, ialK, iasK, aalK, aasK, alnK, zgt_u, zgt_a, Option.toList_some, Option.toList_none, List.cons_append, List.nil_append, List.map_cons, List.map_nil, List.replicate, ite_true, ite_false, if_true, if_false, List.getElem?_cons_zero, List.getElem?_cons_succ, List.set_cons_zero, List.set_cons_succ, true_and, and_true, beq_self_eq_true, zite, Int.toNat_natCast, if_pos, if_neg, zwr_id, zand, c0, s_isGroup5, zb_eq, zb_ne, h0, and_self, not_true, rDt_rc c2, b5, rIt_rc b1, s_sizeOf b1 b3]
          · by_cases k0 : w = 0
            · simp (disch := omega) only [e_76, w_76_0, w_76_1, w_76_2, w_76_3, w_76_4, w_76_5, w_76_6, w_76_7, w_76_8, w_76_9, w_76_10, w_76_11, w_76_12, w_76_13, w_76_14, w_76_15, w_76_16, w_76_17, w_76_18, w_76_19, w_76_20, w_76_21, w_76_22, w_76_23, w_76_24, w_76_25, w_76_26, w_76_27, w_76_28, w_76_29, w_76_30, w_76_31, w_76_32, w_76_33, w_76_34, w_76_35, w_76_36, w_76_37, w_76_38, w_76_39, w_76_40, getK, putK, ialK, iasK, aalK, aasK, alnK, zgt_u, zgt_a, Option.toList_some, Option.toList_none, List.cons_append, List.nil_append, List.map_cons, List.map_nil, List.replicate, ite_true, ite_false, if_true, if_false, List.getElem?_cons_zero, List.getElem?_cons_succ, List.set_cons_zero, List.set_cons_succ, true_and, and_true, beq_self_eq_true, zite, Int.toNat_natCast, if_pos, if_neg, zwr_id, zand, c0, s_isGroup5, zb_eq, zb_ne, h0, and_self, not_true, rDt_rc c2, b5, rIt_rc b1, s_sizeOf b1 b3, s_startOf b1 b3, s_codeAt2 b1 b3]
            · simp (disch := omega) only [e_76, w_76_0, w_76_1, w_76_2, w_76_3, w_76_4, w_76_5, w_76_6, w_76_7, w_76_8, w_76_9, w_76_10, w_76_11, w_76_12, w_76_13, w_76_14, w_76_15, w_76_16, w_76_17, w_76_18, w_76_19, w_76_20, w_76_21, w_76_22, w_76_23, w_76_24, w_76_25, w_76_26, w_76_27, w_76_28, w_76_29, w_76_30, w_76_31, w_76_32, w_76_33, w_76_34, w_76_35, w_76_36, w_76_37, w_76_38, w_76_39, w_76_40, getK, putK, ialK, iasK, aalK, aasK, alnK, zgt_u, zgt_a, Option.toList_some, Option.toList_none, List.cons_append, List.nil_append, List.map_cons, List.map_nil, List.replicate, ite_true, ite_false, if_true, if_false, List.getElem?_cons_zero, List.getElem?_cons_succ, List.set_cons_zero, List.set_cons_succ, true_and, and_true, beq_self_eq_true, zite, Int.toNat_natCast, if_pos, if_neg, zwr_id, zand, c0, s_isGroup5, zb_eq, zb_ne, h0, and_self, not_true, rDt_rc c2, b5, rIt_rc b1, s_sizeOf b1 b3, s_startOf b1 b3, s_weightAt2 b1 b3]
        · rw [if_neg (fun q => h3 q.2.2.2)]
          simp (disch := omega) only [e_76, w_76_0, w_76_1, w_76_2, w_76_3, w_76_4, w_76_5, w_76_6, w_76_7, w_76_8, w_76_9, w_76_10, w_76_11, w_76_12, w_76_13, w_76_14, w_76_15, w_76_16, w_76_17, w_76_18, w_76_19, w_76_20, w_76_21, w_76_22, w_76_23, w_76_24, w_76_25, w_76_26, w_76_27, w_76_28, w_76_29, w_76_30, w_76_31, w_76_32, w_76_33, w_76_34, w_76_35, w_76_36, w_76_37, w_76_38, w_76_39, w_76_40, getK, putK, ialK, iasK, aalK, aasK, alnK, zgt_u, zgt_a, Option.toList_some, Option.toList_none, List.cons_append, List.nil_append, List.map_cons, List.map_nil, List.replicate, ite_true, ite_false, if_true, if_false, List.getElem?_cons_zero, List.getElem?_cons_succ, List.set_cons_zero, List.set_cons_succ, true_and, and_true, beq_self_eq_true, zite, Int.toNat_natCast, if_pos, if_neg, zwr_id, zand, c0, s_isGroup5, zb_eq, zb_ne, h0, and_self, not_true]
      · rw [if_neg (fun q => h2 q.2.2.1)]
        simp (disch := omega) only [e_76, w_76_0, w_76_1, w_76_2, w_76_3, w_76_4, w_76_5, w_76_6, w_76_7, w_76_8, w_76_9, w_76_10, w_76_11, w_76_12, w_76_13, w_76_14, w_76_15, w_76_16, w_76_17, w_76_18, w_76_19, w_76_20, w_76_21, w_76_22, w_76_23, w_76_24, w_76_25, w_76_26, w_76_27, w_76_28, w_76_29, w_76_30, w_76_31, w_76_32, w_76_33, w_76_34, w_76_35, w_76_36, w_76_37, w_76_38, w_76_39, w_76_40, getK, putK, ialK, iasK, aalK, aasK, alnK, zgt_u, zgt_a, Option.toList_some, Option.toList_none, List.cons_append, List.nil_append, List.map_cons, List.map_nil, List.replicate, ite_true, ite_false, if_true, if_false, List.getElem?_cons_zero, List.getElem?_cons_succ, List.set_cons_zero, List.set_cons_succ, true_and, and_true, beq_self_eq_true, zite, Int.toNat_natCast, if_pos, if_neg, zwr_id, zand, c0, s_isGroup5, zb_eq, zb_ne, h0, and_self, not_true]
    · rw [if_neg (fun q => h1 q.2.1)]
      simp (disch := omega) only [e_76, w_76_0, w_76_1, w_76_2, w_76_3, w_76_4, w_76_5, w_76_6, w_76_7, w_76_8, w_76_9, w_76_10, w_76_11, w_76_12, w_76_13, w_76_14, w_76_15, w_76_16, w_76_17, w_76_18, w_76_19, w_76_20, w_76_21, w_76_22, w_76_23, w_76_24, w_76_25, w_76_26, w_76_27, w_76_28, w_76_29, w_76_30, w_76_31, w_76_32, w_76_33, w_76_34, w_76_35, w_76_36, w_76_37, w_76_38, w_76_39, w_76_40, getK, putK, ialK, iasK, aalK, aasK, alnK, zgt_u, zgt_a, Option.toList_some, Option.toList_none, List.cons_append, List.nil_append, List.map_cons, List.map_nil, List.replicate, ite_true, ite_false, if_true, if_false, List.getElem?_cons_zero, List.getElem?_cons_succ, List.set_cons_zero, List.set_cons_succ, true_and, and_true, beq_self_eq_true, zite, Int.toNat_natCast, if_pos, if_neg, zwr_id, zand, c0, s_isGroup5, zb_eq, zb_ne, h0, and_self, not_true]
  · rw [if_neg (fun q => h0 q.1)]
    simp (disch := omega) only [e_76, w_76_0, w_76_1, w_76_2, w_76_3, w_76_4, w_76_5, w_76_6, w_76_7, w_76_8, w_76_9, w_76_10, w_76_11, w_76_12, w_76_13, w_76_14, w_76_15, w_76_16, w_76_17, w_76_18, w_76_19, w_76_20, w_76_21, w_76_22, w_76_23, w_76_24, w_76_25, w_76_26, w_76_27, w_76_28, w_76_29, w_76_30, w_76_31, w_76_32, w_76_33, w_76_34, w_76_35, w_76_36, w_76_37, w_76_38, w_76_39, w_76_40, getK, putK, ialK, iasK, aalK, aasK, alnK, zgt_u, zgt_a, Option.toList_some, Option.toList_none, List.cons_append, List.nil_append, List.map_cons, List.map_nil, List.replicate, ite_true, ite_false, if_true, if_false, List.getElem?_cons_zero, List.getElem?_cons_succ, List.set_cons_zero, List.set_cons_succ, true_and, and_true, beq_self_eq_true, zite, Int.toNat_natCast, if_pos, if_neg, zwr_id, zand, c0, s_isGroup5, zb_eq, zb_ne, h0, not_false_eq_true]
end
