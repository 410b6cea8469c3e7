/-! THE MODEL'S WORDS ADDED AND DROPPED -/
theorem insL_mid {x : zI} : ∀ {A B : List zI}, (∀ y ∈ A, y.2.1 < x.2.1) → (∀ y ∈ B, ¬ y.2.1 < x.2.1) → insL x (A ++ B) = A ++ x :: B
  | [], [], _, _ => rfl
  | [], y :: B, _, h => by
    have h1 := h y (by simp)
    show insL x (y :: B) = x :: y :: B
    unfold insL
    rw [if_neg h1]
  | y :: A, B, h1, h2 => by
    have h0 := h1 y (by simp)
    show insL x (y :: (A ++ B)) = y :: (A ++ x :: B)
    unfold insL
    rw [if_pos h0, insL_mid (fun z hz => h1 z (by simp [hz])) h2]
section
variable {sc : Nat × (Int → Int)} {h : zH} {Q : Option zV → zH → Prop} {pm fl p n : Int} {w : Int → Int} {S : zDt}
theorem lp_aw {c v : Int} {L : List zI} (hl : L.length ≤ 23) (hs : srtL L) : ∀ (k : Nat) (A B : List zI) (h : zH) (w' : Int → Int), A.length = k → L = A ++ B → mF h pm fl p n w' → w' 0 = L.length → rS w' 0 A → rS w' ((k : Int) + 1) B → (∀ y ∈ B, c < y.2.1) → (∀ i, 49 ≤ i → w' i = w i) → (∀ h' w'' A' B', L = A' ++ B' → mF h' pm fl p n w'' → w'' 0 = L.length → rS w'' 0 A' → rS w'' ((A'.length : Int) + 1) B' → (∀ y ∈ A', y.2.1 ≤ c) → (∀ y ∈ B', c < y.2.1) → (∀ i, 49 ≤ i → w'' i = w i) → fr h h' 25 1 → zwp sc 113 47 [some (.inr (.inl (some 24))), some (.inl c), some (.inl v), some (.inl (A'.length : Int))] [] h' Q) → zwp sc 113 5 [some (.inr (.inl (some 24))), some (.inl c), some (.inl v), some (.inl (k : Int))] [] h Q := by
  intro k
  induction k with
  | zero =>
    intro A B h w' hk e hO h0 hA hB hc ho hQ
    have : A = [] := List.length_eq_zero_iff.mp hk
    subst this
    have := hQ h w' [] B e hO h0 hA hB (fun y hy => by cases hy) hc ho fr_rf
    rw [w_113_5]
    simp (disch := omega) only [e_113, w_113_6, w_113_7, w_113_8, w_113_9, w_113_10, w_113_11, w_113_12, w_113_13, w_113_14, w_113_15, w_113_16, w_113_17, w_113_18, w_113_19, w_113_20, w_113_21, w_113_22, w_113_23, w_113_24, w_113_25, w_113_26, w_113_27, w_113_28, w_113_29, w_113_30, w_113_31, w_113_32, w_113_33, w_113_34, w_113_35, w_113_36, w_113_37, w_113_38, w_113_39, w_113_40, w_113_41, w_113_42, w_113_43, w_113_44, w_113_45, w_113_46, getK, putK, ialK, iasK, aalK, aasK, alnK, zgt_u, zgt_a, Option.toList_some, Option.toList_none, List.cons_append, List.nil_append, List.map_cons, List.map_nil, List.replicate, ite_true, ite_false, if_true, if_false, List.getElem?_cons_zero, List.getElem?_cons_succ, List.set_cons_zero, List.set_cons_succ, true_and, and_true, beq_self_eq_true, zite, Int.toNat_natCast, if_pos, if_neg, zwr_id, zand]
    exact this
  | succ k ih =>
    intro A B h w' hk e hO h0 hA hB hc ho hQ
    obtain ⟨A1, a, rfl⟩ : ∃ A1 a, A = A1 ++ [a] := ⟨A.dropLast, A.getLast (by intro q; rw [q] at hk; simp at hk), (List.dropLast_concat_getLast _).symm⟩
    have hk1 : A1.length = k := by rw [List.length_append, List.length_singleton] at hk; omega
    obtain ⟨hO1, hW⟩ := id hO
    have hlen : L.length = A1.length + 1 + B.length := by rw [e]; simp; omega
    obtain ⟨hA1, hA2⟩ := rS_app.mp hA
    rw [Int.zero_add, hk1] at hA2
    obtain ⟨hx, hy, -⟩ := hA2
    have ek : ((k + 1 : Nat) : Int) = (k : Int) + 1 := by omega
    have e1 : 1 + ((k : Int) + 1) - 1 = 1 + (k : Int) := by omega
    have e2 : 25 + ((k : Int) + 1) - 1 = 25 + (k : Int) := by omega
    have e3 : (k : Int) + 1 + -1 = (k : Int) := by omega
    rw [ek] at hB ⊢
    rw [w_113_5]
    by_cases c1 : a.2.1 ≤ c
    · have := hQ h w' (A1 ++ [a]) B e hO h0 hA (by rw [List.length_append, List.length_singleton, hk1, ek]; exact hB) (fun y hy => ?_) hc ho fr_rf
      · rw [List.length_append, List.length_singleton, hk1, ek] at this
        simp (disch := omega) only [e_113, w_113_6, w_113_7, w_113_8, w_113_9, w_113_10, w_113_11, w_113_12, w_113_13, w_113_14, w_113_15, w_113_16, w_113_17, w_113_18, w_113_19, w_113_20, w_113_21, w_113_22, w_113_23, w_113_24, w_113_25, w_113_26, w_113_27, w_113_28, w_113_29, w_113_30, w_113_31, w_113_32, w_113_33, w_113_34, w_113_35, w_113_36, w_113_37, w_113_38, w_113_39, w_113_40, w_113_41, w_113_42, w_113_43, w_113_44, w_113_45, w_113_46, getK, putK, ialK, iasK, aalK, aasK, alnK, zgt_u, zgt_a, Option.toList_some, Option.toList_none, List.cons_append, List.nil_append, List.map_cons, List.map_nil, List.replicate, ite_true, ite_false, if_true, if_false, List.getElem?_cons_zero, List.getElem?_cons_succ, List.set_cons_zero, List.set_cons_succ, true_and, and_true, beq_self_eq_true, zite, Int.toNat_natCast, if_pos, if_neg, zwr_id, zand, hO1, hW, e1, hx]
        exact this
      · rcases List.mem_append.mp hy with q | q
        · have hp := hs.2
          rw [e] at hp
          have := (List.pairwise_append.mp (List.pairwise_append.mp hp).1).2.2 y q a (by simp)
          omega
        · rw [List.mem_singleton.mp q]; exact c1
    · simp (disch := omega) only [e_113, w_113_6, w_113_7, w_113_8, w_113_9, w_113_10, w_113_11, w_113_12, w_113_13, w_113_14, w_113_15, w_113_16, w_113_17, w_113_18, w_113_19, w_113_20, w_113_21, w_113_22, w_113_23, w_113_24, w_113_25, w_113_26, w_113_27, w_113_28, w_113_29, w_113_30, w_113_31, w_113_32, w_113_33, w_113_34, w_113_35, w_113_36, w_113_37, w_113_38, w_113_39, w_113_40, w_113_41, w_113_42, w_113_43, w_113_44, w_113_45, w_113_46, getK, putK, ialK, iasK, aalK, aasK, alnK, zgt_u, zgt_a, Option.toList_some, Option.toList_none, List.cons_append, List.nil_append, List.map_cons, List.map_nil, List.replicate, ite_true, ite_false, if_true, if_false, List.getElem?_cons_zero, List.getElem?_cons_succ, List.set_cons_zero, List.set_cons_succ, true_and, and_true, beq_self_eq_true, zite, Int.toNat_natCast, if_pos, if_neg, zwr_id, zand, hO1, hW, e1, e2, e3, hx, hy, Nat.reduceEqDiff, zup_n]
      refine ih A1 (a :: B) _ _ hk1 (by rw [e]; simp) (mF_u (mF_u hO _) _) ?_ (rS_ext hA1 (fun i a1 a2 => ?_)) ⟨?_, ?_, rS_ext hB (fun i a1 a2 => ?_)⟩ (fun y hy => ?_) (fun i hi => ?_) (fun h' w'' A' B' b1 b2 b3 b4 b5 b6 b7 b8 b9 => hQ h' w'' A' B' b1 b2 b3 b4 b5 b6 b7 b8 (fr_tr (fr_u (fr_u fr_rf (by omega) (by omega)) (by omega) (by omega)) b9))
      · simp (disch := omega) only [zup_n]
        exact h0
      · exact ⟨by rw [zup_n (by omega), zup_n (by omega)], by rw [zup_n (by omega), zup_n (by omega)]⟩
      · rw [zup_n (by omega), zup_s]
      · rw [zup_s]
      · exact ⟨by rw [zup_n (by omega), zup_n (by omega)], by rw [zup_n (by omega), zup_n (by omega)]⟩
      · rcases List.mem_cons.mp hy with q | q
        · rw [q]; omega
        · exact hc y q
      · rw [zup_n (by omega), zup_n (by omega)]; exact ho i hi
theorem s6_addWord {c v : Int} (hO : mF h pm fl p n w) (hW : rW w S) (hok : okDt S) (hl : S.1.length < 24) (hc : wd c) (hv : -99 ≤ v ∧ v ≤ 99) (hn : ∀ y ∈ S.1, y.2.1 ≠ c) (hQ : ∀ h' w', mF h' pm fl p n w' → rW w' (entS S c v) → fr h h' 25 1 → Q (some (.inl (lgM S.2.1))) h') : zca sc 113 [.inr (.inl (some 24)), .inl c, .inl v] h Q := by
  obtain ⟨l1, l2, l3, l4, l5⟩ := hW
  obtain ⟨a1, a2, a3, a4, a5, a6, a7, a8, a9, a10, a11⟩ := id hok
  obtain ⟨hO1, hW1⟩ := id hO
  obtain ⟨p1, p2, p3⟩ := ptM_ok (c := c) (w := v) a2 a8 (by omega) hc hv
  obtain ⟨e0, e1⟩ := rL_S.mp l1
  simp (disch := omega) only [e_113, w_113_0, w_113_1, w_113_2, w_113_3, w_113_4, getK, putK, ialK, iasK, aalK, aasK, alnK, zgt_u, zgt_a, Option.toList_some, Option.toList_none, List.cons_append, List.nil_append, List.map_cons, List.map_nil, List.replicate, ite_true, ite_false, if_true, if_false, List.getElem?_cons_zero, List.getElem?_cons_succ, List.set_cons_zero, List.set_cons_succ, true_and, and_true, beq_self_eq_true, zite, Int.toNat_natCast, if_pos, if_neg, zwr_id, zand, hO1, hW1, e0]
  refine lp_aw (w := w) (by omega) a4 S.1.length S.1 [] h w rfl (by rw [List.append_nil]) hO e0 e1 trivial (fun y hy => by cases hy) (fun _ _ => rfl) (fun h1 w1 A B b1 b2 b3 b4 b5 b6 b7 b8 b9 => ?_)
  obtain ⟨hO2, hW2⟩ := id b2
  have hlen : S.1.length = A.length + B.length := by rw [b1]; simp
  have hins : insL (0, c, v) S.1 = A ++ (0, c, v) :: B := by
    rw [b1]
    refine insL_mid (fun y hy => ?_) (fun y hy => ?_)
    · have h1 := b6 y hy
      have h2 := hn y (by rw [b1]; simp [hy])
      show y.2.1 < c
      omega
    · have h1 := b7 y hy
      show ¬ y.2.1 < c
      omega
  simp (disch := omega) only [e_113, w_113_47, w_113_48, w_113_49, w_113_50, w_113_51, w_113_52, w_113_53, w_113_54, w_113_55, w_113_56, w_113_57, w_113_58, w_113_59, w_113_60, w_113_61, w_113_62, w_113_63, w_113_64, w_113_65, w_113_66, w_113_67, w_113_68, w_113_69, w_113_70, w_113_71, w_113_72, w_113_73, w_113_74, getK, putK, ialK, iasK, aalK, aasK, alnK, zgt_u, zgt_a, Option.toList_some, Option.toList_none, List.cons_append, List.nil_append, List.map_cons, List.map_nil, List.replicate, ite_true, ite_false, if_true, if_false, List.getElem?_cons_zero, List.getElem?_cons_succ, List.set_cons_zero, List.set_cons_succ, true_and, and_true, beq_self_eq_true, zite, Int.toNat_natCast, if_pos, if_neg, zwr_id, zand, hO2, hW2, mF_rc b2, b3, Nat.reduceEqDiff, zup_n, zrc hO2]
  generalize hw3 : zup (zup (zup w1 (1 + (A.length : Int)) c) (25 + (A.length : Int)) v) 0 _ = w3
  have hO3 : mF (zuH (zuH (zuH h1 25 (.inr (.inl (437, zup w1 (1 + (A.length : Int)) c)))) 25 (.inr (.inl (437, zup (zup w1 (1 + (A.length : Int)) c) (25 + (A.length : Int)) v)))) 25 (.inr (.inl (437, w3)))) pm fl p n w3 := mF_u (mF_u (mF_u b2 _) _) _
  generalize hh3 : zuH (zuH (zuH h1 25 (.inr (.inl (437, zup w1 (1 + (A.length : Int)) c)))) 25 (.inr (.inl (437, zup (zup w1 (1 + (A.length : Int)) c) (25 + (A.length : Int)) v)))) 25 (.inr (.inl (437, w3))) = h3 at hO3 ⊢
  have hf3 : fr h h3 25 1 := by rw [← hh3]; exact fr_u (fr_u (fr_u b9 (by omega) (by omega)) (by omega) (by omega)) (by omega) (by omega)
  have o3 : ∀ i, 49 ≤ i → w3 i = w i := fun i hi => by
    rw [← hw3, zup_n (by omega), zup_n (by omega), zup_n (by omega)]
    exact b8 i hi
  have L3 : rL w3 (insL (0, c, v) S.1) := by
    rw [hins]
    refine rL_S.mpr ⟨?_, rS_app.mpr ⟨rS_ext b4 (fun i u1 u2 => ?_), ?_, ?_, ?_⟩⟩
    · rw [← hw3, zup_s, List.length_append, List.length_cons]; omega
    · rw [← hw3]
      exact ⟨by rw [zup_n (by omega), zup_n (by omega), zup_n (by omega)], by rw [zup_n (by omega), zup_n (by omega), zup_n (by omega)]⟩
    · rw [← hw3, Int.zero_add, zup_n (by omega), zup_n (by omega), zup_s]
    · rw [← hw3, Int.zero_add, zup_n (by omega), zup_s]
    · rw [Int.zero_add]
      refine rS_ext b5 (fun i u1 u2 => ?_)
      rw [← hw3]
      exact ⟨by rw [zup_n (by omega), zup_n (by omega), zup_n (by omega)], by rw [zup_n (by omega), zup_n (by omega), zup_n (by omega)]⟩
  have hli : (insL (0, c, v) S.1).length ≤ 24 := by rw [hins, List.length_append, List.length_cons]; omega
  rw [zand (mF_rc hO3)]
  refine s6_put (f := 0) hO3 (by omega) (rF_eq l2 (by omega) (fun k u1 u2 => o3 k (by omega))) (by omega) a2 a8 hc hv (fun h4 w4 q1 q2 q3 q4 q5 => ?_)
  simp (disch := omega) only [e_113, w_113_47, w_113_48, w_113_49, w_113_50, w_113_51, w_113_52, w_113_53, w_113_54, w_113_55, w_113_56, w_113_57, w_113_58, w_113_59, w_113_60, w_113_61, w_113_62, w_113_63, w_113_64, w_113_65, w_113_66, w_113_67, w_113_68, w_113_69, w_113_70, w_113_71, w_113_72, w_113_73, w_113_74, getK, putK, ialK, iasK, aalK, aasK, alnK, zgt_u, zgt_a, Option.toList_some, Option.toList_none, List.cons_append, List.nil_append, List.map_cons, List.map_nil, List.replicate, ite_true, ite_false, if_true, if_false, List.getElem?_cons_zero, List.getElem?_cons_succ, List.set_cons_zero, List.set_cons_succ, true_and, and_true, beq_self_eq_true, zite, Int.toNat_natCast, if_pos, if_neg, zwr_id, zand]
  refine hQ h4 w4 q1 ⟨rL_eq L3 hli (fun k u1 u2 => q4 k (by omega) (by omega)), q2, rF_eq l3 (by show S.2.2.1.length ≤ 64; omega) (fun k u1 u2 => by rw [q4 k (by omega) (by omega), o3 k (by omega)]), ?_, ?_⟩ (fr_tr hf3 q5)
  · rw [q3, o3 435 (by omega), l4]; rfl
  · rw [q4 436 (by omega) (by omega), o3 436 (by omega), l5]; rfl
theorem lp_dw {k0 c0 v0 l5 : Option zV} : ∀ (B A : List zI) (h : zH) (w' : Int → Int), A.length + B.length ≤ 23 → mF h pm fl p n w' → w' 0 = ((A ++ B).length : Int) → rS w' 0 A → rS w' ((A.length : Int) + 1) B → (∀ i, 49 ≤ i → w' i = w i) → (∀ h' w'' l4, mF h' pm fl p n w'' → rL w'' (A ++ B) → (∀ i, 49 ≤ i → w'' i = w i) → fr h h' 25 1 → zwp sc 114 60 [some (.inr (.inl (some 24))), k0, c0, v0, l4, l5] [] h' Q) → zwp sc 114 24 [some (.inr (.inl (some 24))), k0, c0, v0, some (.inl (A.length : Int)), l5] [] h Q := by
  intro B
  induction B with
  | nil =>
    intro A h w' hl hO h0 hA hB ho hQ
    rw [List.append_nil] at h0 hQ
    obtain ⟨hO1, hW⟩ := id hO
    have := hQ h w' (some (.inl (A.length : Int))) hO (rL_S.mpr ⟨h0, hA⟩) ho fr_rf
    rw [w_114_24]
    simp (disch := omega) only [e_114, w_114_25, w_114_26, w_114_27, w_114_28, w_114_29, w_114_30, w_114_31, w_114_32, w_114_33, w_114_34, w_114_35, w_114_36, w_114_37, w_114_38, w_114_39, w_114_40, w_114_41, w_114_42, w_114_43, w_114_44, w_114_45, w_114_46, w_114_47, w_114_48, w_114_49, w_114_50, w_114_51, w_114_52, w_114_53, w_114_54, w_114_55, w_114_56, w_114_57, w_114_58, w_114_59, getK, putK, ialK, iasK, aalK, aasK, alnK, zgt_u, zgt_a, Option.toList_some, Option.toList_none, List.cons_append, List.nil_append, List.map_cons, List.map_nil, List.replicate, ite_true, ite_false, if_true, if_false, List.getElem?_cons_zero, List.getElem?_cons_succ, List.set_cons_zero, List.set_cons_succ, true_and, and_true, beq_self_eq_true, zite, Int.toNat_natCast, if_pos, if_neg, zwr_id, zand, hO1, hW, h0]
    exact this
  | cons y B ih =>
    intro A h w' hl hO h0 hA hB ho hQ
    obtain ⟨hO1, hW⟩ := id hO
    obtain ⟨hx, hy, hB'⟩ := hB
    rw [← Int.add_assoc] at hx hy
    rw [List.length_cons] at hl
    have h0' := h0
    rw [List.length_append, List.length_cons] at h0'
    have ih := fun h w' => ih (A ++ [y]) h w' (by rw [List.length_append, List.length_singleton]; omega)
    rw [List.append_assoc, List.singleton_append, show ((A ++ [y]).length : Int) = (A.length : Int) + 1 by simp] at ih
    rw [w_114_24]
    simp (disch := omega) only [e_114, w_114_25, w_114_26, w_114_27, w_114_28, w_114_29, w_114_30, w_114_31, w_114_32, w_114_33, w_114_34, w_114_35, w_114_36, w_114_37, w_114_38, w_114_39, w_114_40, w_114_41, w_114_42, w_114_43, w_114_44, w_114_45, w_114_46, w_114_47, w_114_48, w_114_49, w_114_50, w_114_51, w_114_52, w_114_53, w_114_54, w_114_55, w_114_56, w_114_57, w_114_58, w_114_59, getK, putK, ialK, iasK, aalK, aasK, alnK, zgt_u, zgt_a, Option.toList_some, Option.toList_none, List.cons_append, List.nil_append, List.map_cons, List.map_nil, List.replicate, ite_true, ite_false, if_true, if_false, List.getElem?_cons_zero, List.getElem?_cons_succ, List.set_cons_zero, List.set_cons_succ, true_and, and_true, beq_self_eq_true, zite, Int.toNat_natCast, if_pos, if_neg, zwr_id, zand, hO1, hW, h0', hx, hy, Nat.reduceEqDiff, zup_n]
    refine ih _ _ (mF_u (mF_u hO _) _) ?_ (rS_app.mpr ⟨rS_ext hA (fun i u1 u2 => ?_), ?_, ?_, trivial⟩) (rS_ext hB' (fun i u1 u2 => ?_)) (fun i hi => ?_) (fun h' w'' l4 q1 q2 q3 q4 => hQ h' w'' l4 q1 q2 q3 (fr_tr (fr_u (fr_u fr_rf (by omega) (by omega)) (by omega) (by omega)) q4))
    · rw [zup_n (by omega), zup_n (by omega)]; exact h0
    · exact ⟨by rw [zup_n (by omega), zup_n (by omega)], by rw [zup_n (by omega), zup_n (by omega)]⟩
    · rw [Int.zero_add, zup_n (by omega), zup_s]
    · rw [Int.zero_add, zup_s]
    · exact ⟨by rw [zup_n (by omega), zup_n (by omega)], by rw [zup_n (by omega), zup_n (by omega)]⟩
    · rw [zup_n (by omega), zup_n (by omega)]; exact ho i hi
theorem s6_dropWord {k : Nat} {x : zI} (hO : mF h pm fl p n w) (hW : rW w S) (hok : okDt S) (hx : S.1[k]? = some x) (hQ : ∀ h' w', mF h' pm fl p n w' → rW w' (droS S k x) → fr h h' 25 1 → Q (some (.inl (droR S k))) h') : zca sc 114 [.inr (.inl (some 24)), .inl (k : Int)] h Q := by
  obtain ⟨l1, l2, l3, l4, l5⟩ := hW
  obtain ⟨a1, a2, a3, a4, a5, a6, a7, a8, a9, a10, a11⟩ := id hok
  obtain ⟨hO1, hW1⟩ := id hO
  have hk := (List.getElem?_eq_some_iff.mp hx).1
  have hox := a1 x (List.mem_of_getElem? hx)
  obtain ⟨s1, s2, s3⟩ := split_at hx
  obtain ⟨p1, p2, p3⟩ := ptM_ok a3 a9 (by omega) hox.2.2.1 hox.2.2.2
  obtain ⟨e0, e1⟩ := rL_S.mp l1
  rw [s1] at e1
  obtain ⟨e1, ec, ev, e2⟩ := rS_app.mp e1
  rw [Int.zero_add, s2] at ec ev e2
  have hlE := len_eraseIdx hk
  generalize hA : S.1.take k = A at s1 s2 s3 e1
  generalize hB : S.1.drop (k + 1) = B at s1 s3 e2
  have hlen : A.length + B.length + 1 = S.1.length := by rw [s1]; simp; omega
  simp (disch := omega) only [e_114, w_114_0, w_114_1, w_114_2, w_114_3, w_114_4, w_114_5, w_114_6, w_114_7, w_114_8, w_114_9, w_114_10, w_114_11, w_114_12, w_114_13, w_114_14, w_114_15, w_114_16, w_114_17, w_114_18, w_114_19, w_114_20, w_114_21, w_114_22, w_114_23, getK, putK, ialK, iasK, aalK, aasK, alnK, zgt_u, zgt_a, Option.toList_some, Option.toList_none, List.cons_append, List.nil_append, List.map_cons, List.map_nil, List.replicate, ite_true, ite_false, if_true, if_false, List.getElem?_cons_zero, List.getElem?_cons_succ, List.set_cons_zero, List.set_cons_succ, true_and, and_true, beq_self_eq_true, zite, Int.toNat_natCast, if_pos, if_neg, zwr_id, zand, hO1, hW1, ec, ev, e0]
  have hO2 := mF_u hO (zup w 0 ((S.1.length : Int) - 1))
  rw [show (k : Int) = (A.length : Int) by omega]
  refine lp_dw (w := w) B A _ _ (by omega) hO2 ?_ (rS_ext e1 (fun i u1 u2 => ?_)) ?_ (fun i hi => zup_n (by omega)) (fun h1 w1 l4' b1 b2 b3 b4 => ?_)
  · rw [zup_s, List.length_append]; omega
  · exact ⟨zup_n (by omega), zup_n (by omega)⟩
  · rw [show (A.length : Int) = (k : Int) by omega]
    exact rS_ext e2 (fun i u1 u2 => ⟨zup_n (by omega), zup_n (by omega)⟩)
  have hf1 : fr h h1 25 1 := fr_tr (fr_u fr_rf (by omega) (by omega)) b4
  rw [← s3] at b2
  simp (disch := omega) only [e_114, w_114_60, w_114_61, w_114_62, w_114_63, w_114_64, w_114_65, w_114_66, w_114_67, w_114_68, w_114_69, w_114_70, w_114_71, w_114_72, w_114_73, w_114_74, w_114_75, w_114_76, w_114_77, w_114_78, w_114_79, w_114_80, w_114_81, w_114_82, w_114_83, w_114_84, w_114_85, w_114_86, w_114_87, w_114_88, getK, putK, ialK, iasK, aalK, aasK, alnK, zgt_u, zgt_a, Option.toList_some, Option.toList_none, List.cons_append, List.nil_append, List.map_cons, List.map_nil, List.replicate, ite_true, ite_false, if_true, if_false, List.getElem?_cons_zero, List.getElem?_cons_succ, List.set_cons_zero, List.set_cons_succ, true_and, and_true, beq_self_eq_true, zite, Int.toNat_natCast, if_pos, if_neg, zwr_id, zand, mF_rc b1]
  refine s6_put (f := 1) b1 (by omega) (rF_eq (b := 242) l3 (by omega) (fun j u1 u2 => b3 j (by omega))) (by omega) a3 a9 hox.2.2.1 hox.2.2.2 (fun h2 w2 q1 q2 q3 q4 q5 => ?_)
  have q2 : rF w2 242 (ptM S.2.2.1 x.2.1 x.2.2) := q2
  have r1 : rL w2 (S.1.eraseIdx k) := rL_eq b2 (by omega) (fun j u1 u2 => q4 j (by omega) (by omega))
  have r2 : rF w2 49 S.2.1 := rF_eq l2 (by omega) (fun j u1 u2 => by rw [q4 j (by omega) (by omega), b3 j (by omega)])
  have r4 : w2 435 = (drp S k x).2.2.2.1 := by rw [q3, b3 435 (by omega), l4]; rfl
  have r5 : w2 436 = S.2.2.2.2 := by rw [q4 436 (by omega) (by omega), b3 436 (by omega), l5]
  have i0 : ∀ Q : Option zV → zH → Prop, zca sc 104 [.inr (.inl (some 24)), .inl 0] h2 Q = Q (some (.inl (S.2.1.length : Int))) h2 := fun Q => by
    rw [s6_items q1.1 q1.2 (by omega), show (49 : Int) + 193 * 0 = 49 by omega, r2.1]
  have i1 : ∀ Q : Option zV → zH → Prop, zca sc 104 [.inr (.inl (some 24)), .inl 1] h2 Q = Q (some (.inl ((S.2.2.1.length : Int) + 1))) h2 := fun Q => by
    rw [s6_items q1.1 q1.2 (by omega), show (49 : Int) + 193 * 1 = 242 by omega, q2.1, p3]
    rfl
  unfold droS droR at hQ
  by_cases hc : 2 * (S.2.2.1.length + 1) ≤ S.2.1.length
  · rw [if_pos hc, if_pos hc] at hQ
    simp (disch := omega) only [e_114, w_114_60, w_114_61, w_114_62, w_114_63, w_114_64, w_114_65, w_114_66, w_114_67, w_114_68, w_114_69, w_114_70, w_114_71, w_114_72, w_114_73, w_114_74, w_114_75, w_114_76, w_114_77, w_114_78, w_114_79, w_114_80, w_114_81, w_114_82, w_114_83, w_114_84, w_114_85, w_114_86, w_114_87, w_114_88, getK, putK, ialK, iasK, aalK, aasK, alnK, zgt_u, zgt_a, Option.toList_some, Option.toList_none, List.cons_append, List.nil_append, List.map_cons, List.map_nil, List.replicate, ite_true, ite_false, if_true, if_false, List.getElem?_cons_zero, List.getElem?_cons_succ, List.set_cons_zero, List.set_cons_succ, true_and, and_true, beq_self_eq_true, zite, Int.toNat_natCast, if_pos, if_neg, zwr_id, zand, mF_rc q1, i0, i1]
    exact hQ h2 w2 q1 ⟨r1, r2, q2, r4, r5⟩ (fr_tr hf1 q5)
  · rw [if_neg hc, if_neg hc] at hQ
    have hsub : ∀ y ∈ S.1.eraseIdx k, y ∈ S.1 := fun y hy => (List.eraseIdx_sublist _ _).mem hy
    simp (disch := omega) only [e_114, w_114_60, w_114_61, w_114_62, w_114_63, w_114_64, w_114_65, w_114_66, w_114_67, w_114_68, w_114_69, w_114_70, w_114_71, w_114_72, w_114_73, w_114_74, w_114_75, w_114_76, w_114_77, w_114_78, w_114_79, w_114_80, w_114_81, w_114_82, w_114_83, w_114_84, w_114_85, w_114_86, w_114_87, w_114_88, getK, putK, ialK, iasK, aalK, aasK, alnK, zgt_u, zgt_a, Option.toList_some, Option.toList_none, List.cons_append, List.nil_append, List.map_cons, List.map_nil, List.replicate, ite_true, ite_false, if_true, if_false, List.getElem?_cons_zero, List.getElem?_cons_succ, List.set_cons_zero, List.set_cons_succ, true_and, and_true, beq_self_eq_true, zite, Int.toNat_natCast, if_pos, if_neg, zwr_id, zand, mF_rc q1, i0, i1]
    refine s6_build q1 r1 (by omega) (okIs_sub a1 hsub) (by rw [r4]; exact inR_wr _) (fun h3 w3 t1 t2 t3 t4 t5 t6 t7 => ?_)
    have hQ := hQ h3 w3 t1 ⟨t2, t3, t4, by rw [t5, r4]; rfl, by rw [t6, r5]; rfl⟩ (fr_tr hf1 (fr_tr q5 t7))
    by_cases h1 : S.1.length = 1
    · rw [if_pos h1] at hQ
      rw [if_pos (by omega)]
      simp (disch := omega) only [e_114, w_114_60, w_114_61, w_114_62, w_114_63, w_114_64, w_114_65, w_114_66, w_114_67, w_114_68, w_114_69, w_114_70, w_114_71, w_114_72, w_114_73, w_114_74, w_114_75, w_114_76, w_114_77, w_114_78, w_114_79, w_114_80, w_114_81, w_114_82, w_114_83, w_114_84, w_114_85, w_114_86, w_114_87, w_114_88, getK, putK, ialK, iasK, aalK, aasK, alnK, zgt_u, zgt_a, Option.toList_some, Option.toList_none, List.cons_append, List.nil_append, List.map_cons, List.map_nil, List.replicate, ite_true, ite_false, if_true, if_false, List.getElem?_cons_zero, List.getElem?_cons_succ, List.set_cons_zero, List.set_cons_succ, true_and, and_true, beq_self_eq_true, zite, Int.toNat_natCast, if_pos, if_neg, zwr_id, zand]
      exact hQ
    · rw [if_neg h1] at hQ
      rw [if_neg (by omega)]
      have hb := lgf_b (n := ((S.1.eraseIdx k).length : Int))
      have e9 : (((S.1.eraseIdx k).length : Nat) : Int) = (S.1.length : Int) - 1 := by omega
      rw [e9] at hb ⊢
      simp (disch := omega) only [e_114, w_114_60, w_114_61, w_114_62, w_114_63, w_114_64, w_114_65, w_114_66, w_114_67, w_114_68, w_114_69, w_114_70, w_114_71, w_114_72, w_114_73, w_114_74, w_114_75, w_114_76, w_114_77, w_114_78, w_114_79, w_114_80, w_114_81, w_114_82, w_114_83, w_114_84, w_114_85, w_114_86, w_114_87, w_114_88, getK, putK, ialK, iasK, aalK, aasK, alnK, zgt_u, zgt_a, Option.toList_some, Option.toList_none, List.cons_append, List.nil_append, List.map_cons, List.map_nil, List.replicate, ite_true, ite_false, if_true, if_false, List.getElem?_cons_zero, List.getElem?_cons_succ, List.set_cons_zero, List.set_cons_succ, true_and, and_true, beq_self_eq_true, zite, Int.toNat_natCast, if_pos, if_neg, zwr_id, zand]
      exact hQ
end
