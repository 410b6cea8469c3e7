/-! THE LAW'S LIVE WORDS -/
def smF (φ : Int × Int → Int) : List zI → Int
  | [] => 0
  | x :: L => φ x.2 + smF φ L
theorem smF_app {φ : Int × Int → Int} : ∀ {L M : List zI}, smF φ (L ++ M) = smF φ L + smF φ M
  | [], M => by show smF φ M = 0 + smF φ M; omega
  | x :: L, M => by
    have ih := smF_app (φ := φ) (L := L) (M := M)
    show φ x.2 + smF φ (L ++ M) = φ x.2 + smF φ L + smF φ M
    omega
theorem smF_perm {φ : Int × Int → Int} {L M : List zI} (h : L.Perm M) : smF φ L = smF φ M := by
  induction h with
  | nil => rfl
  | cons x _ ih => unfold smF; rw [ih]
  | swap x y l => unfold smF; unfold smF; omega
  | trans _ _ h1 h2 => exact h1.trans h2
/-- the same of the pairs alone -/
def smG (φ : Int × Int → Int) : List (Int × Int) → Int
  | [] => 0
  | x :: L => φ x + smG φ L
theorem smG_map {φ : Int × Int → Int} : ∀ {L : List zI}, smG φ (L.map Prod.snd) = smF φ L
  | [] => rfl
  | x :: L => by show φ x.2 + smG φ (L.map Prod.snd) = φ x.2 + smF φ L; rw [smG_map]
theorem smG_perm {φ : Int × Int → Int} {L M : List (Int × Int)} (h : L.Perm M) : smG φ L = smG φ M := by
  induction h with
  | nil => rfl
  | cons x _ ih => unfold smG; rw [ih]
  | swap x y l => unfold smG; unfold smG; omega
  | trans _ _ h1 h2 => exact h1.trans h2
theorem smG_app {φ : Int × Int → Int} : ∀ {L M : List (Int × Int)}, smG φ (L ++ M) = smG φ L + smG φ M
  | [], M => by show smG φ M = 0 + smG φ M; omega
  | x :: L, M => by
    have ih := smG_app (φ := φ) (L := L) (M := M)
    show φ x + smG φ (L ++ M) = φ x + smG φ L + smG φ M
    omega
theorem smF_E {φ : Int × Int → Int} {S : zDt} (h : okE S) : smF φ S.2.1 = smF φ S.2.2.1 + smF φ S.1 := by
  have := smG_perm (φ := φ) h.2.2
  rw [smG_app, smG_map, smG_map, smG_map] at this
  exact this
theorem smF_neg {φ ψ : Int × Int → Int} (h : ∀ p, ψ p = - φ p) : ∀ {L : List zI}, smF ψ L = - smF φ L
  | [] => rfl
  | x :: L => by
    have ih := smF_neg h (L := L)
    have := h x.2
    unfold smF
    omega
theorem smF_sg {φ : Int × Int → Int} {g : Int} {x : zI} {L : List zI} : smF φ (sg g (x :: L)) = (if x.1 = g then φ x.2 else 0) + smF φ (sg g L) := by
  show smF φ (if x.1 = g then x :: sg g L else sg g L) = _
  split
  · rfl
  · omega
def smH (φ : Int × Int → Int) (L : List zI) : Nat → Int → Int
  | 0, _ => 0
  | j + 1, g => smF φ (sg g L) + smH φ L j (g + 1)
theorem smH_7 {φ : Int × Int → Int} : ∀ {L : List zI}, okIs L → smH φ L 7 0 = smF φ L
  | [], _ => rfl
  | x :: L, ho => by
    have ho := okIs_c.mp ho
    have ih := smH_7 (φ := φ) ho.2
    have h1 := ho.1.1
    have h2 := ho.1.2.1
    have e : ∀ M, smH φ M 7 0 = smF φ (sg 0 M) + (smF φ (sg 1 M) + (smF φ (sg 2 M) + (smF φ (sg 3 M) + (smF φ (sg 4 M) + (smF φ (sg 5 M) + (smF φ (sg 6 M) + 0)))))) := fun M => rfl
    rw [e] at ih
    rw [e, smF_sg, smF_sg, smF_sg, smF_sg, smF_sg, smF_sg, smF_sg]
    show _ = φ x.2 + smF φ L
    rw [← ih]
    rcases (show x.1 = 0 ∨ x.1 = 1 ∨ x.1 = 2 ∨ x.1 = 3 ∨ x.1 = 4 ∨ x.1 = 5 ∨ x.1 = 6 by omega) with q | q | q | q | q | q | q
    all_goals
      rw [q]
      simp only [Int.reduceEq, if_true, if_false, ↓reduceIte]
      omega
def ph (f cd : Int) (p : Int × Int) : Int := if p.1 = cd then 1 - 2 * f else 0
def ps (f cd : Int) (p : Int × Int) : Int := if p.1 = cd then (1 - 2 * f) * p.2 else 0
theorem ph_b {f cd : Int} (hf : f = 0 ∨ f = 1) (N : List zI) : -(N.length : Int) ≤ smF (ph f cd) N ∧ smF (ph f cd) N ≤ N.length := by
  induction N with
  | nil => exact ⟨Int.le_refl _, Int.le_refl _⟩
  | cons x N ih =>
    unfold smF
    unfold ph at ih ⊢
    rw [List.length_cons]
    split <;> omega
theorem ps_b {f cd : Int} (hf : f = 0 ∨ f = 1) {N : List zI} (ho : okIs N) : -99 * (N.length : Int) ≤ smF (ps f cd) N ∧ smF (ps f cd) N ≤ 99 * (N.length : Int) := by
  induction N with
  | nil => exact ⟨Int.le_refl _, Int.le_refl _⟩
  | cons x N ih =>
    have ho := okIs_c.mp ho
    have h1 := ho.1.2.2.2
    have ih := ih ho.2
    unfold smF
    unfold ps at ih ⊢
    rw [List.length_cons]
    rcases hf with rfl | rfl
    · split <;> omega
    · split <;> omega
section
variable {sc : Nat × (Int → Int)} {b1 b2 : Nat} {H : zH} {z z2 : zS} {c c2 : Nat} {Q : Option zV → zH → Prop}
theorem lp_il16 {f g cd w : Int} {N : List zI} (hP : PP b1 b2 H z z2 c c2) (hz : okZ z) (hf : f = 0 ∨ f = 1) (hg : 0 ≤ g ∧ g ≤ 6) (ho : okIs N) (hl : N.length ≤ 48) (hc : grS z f g 0 = (N.length : Int)) (hit : ∀ k, 0 ≤ k → k < (N.length : Int) → itS z f g k 0 = (gI N k).2.1 ∧ itS z f g k 1 = (gI N k).2.2) : ∀ (S P : List zI) (m wt : Int) (l8 : Option zV), P ++ S = N → -1000000 + (S.length : Int) ≤ m → m ≤ 1000000 - (S.length : Int) → -1000000 + 99 * (S.length : Int) ≤ wt → wt ≤ 1000000 - 99 * (S.length : Int) → (∀ m' w' l8, m' = m + smF (ph f cd) S → w' = wt + smF (ps f cd) S → zwp sc 93 68 [some (.inr (.inl (some b1))), some (.inl cd), some (.inl w), some (.inl m'), some (.inl w'), some (.inl f), some (.inl g), some (.inl (N.length : Int)), l8] [] H Q) → zwp sc 93 16 [some (.inr (.inl (some b1))), some (.inl cd), some (.inl w), some (.inl m), some (.inl wt), some (.inl f), some (.inl g), some (.inl (P.length : Int)), l8] [] H Q := by
  have hf2 : 0 ≤ f ∧ f ≤ 1 := by omega
  intro S
  induction S with
  | nil =>
    intro P m wt l8 hPS m1 m2 w1 w2 hend
    rw [List.append_nil] at hPS
    subst hPS
    rw [w_93_16]
    simp (disch := omega) only [e_93, w_93_17, w_93_18, w_93_19, w_93_20, w_93_21, w_93_22, getK, putK, ialK, iasK, aalK, aasK, alnK, zgt_u, zgt_a, Option.toList_some, Option.toList_none, List.cons_append, List.nil_append, List.map_cons, List.map_nil, List.replicate, ite_true, ite_false, if_true, if_false, List.getElem?_cons_zero, List.getElem?_cons_succ, List.set_cons_zero, List.set_cons_succ, true_and, and_true, beq_self_eq_true, zite, Int.toNat_natCast, if_pos, if_neg, zwr_id, zand, p_rc hP, p_groupE hP hz, and_self, true_or, or_true, hc]
    exact hend m wt l8 (by show m = m + 0; omega) (by show wt = wt + 0; omega)
  | cons x S ih =>
    intro P m wt l8 hPS m1 m2 w1 w2 hend
    rw [List.length_cons] at m1 m2 w1 w2
    have hx : x ∈ N := by rw [← hPS]; simp
    have hox := ho x hx
    have hw2 := hox.2.2.2
    have hlen : P.length + 1 + S.length = N.length := by rw [← hPS, List.length_append, List.length_cons]; omega
    have hgx : gI N (P.length : Int) = x := by rw [← hPS]; exact gI_app
    obtain ⟨e0, e1⟩ := hit (P.length : Int) (by omega) (by omega)
    rw [hgx] at e0 e1
    have hlx : ((P ++ [x]).length : Int) = (P.length : Int) + 1 := by rw [List.length_append, List.length_singleton]; omega
    have hih := fun m wt l8 => ih (P ++ [x]) m wt l8 (by rw [List.append_assoc]; exact hPS)
    rw [hlx] at hih
    rw [w_93_16]
    by_cases hcd : x.2.1 = cd
    · rcases hf with rfl | rfl
      · simp (disch := omega) only [e_93, w_93_17, w_93_18, w_93_19, w_93_20, w_93_21, w_93_22, w_93_23, w_93_24, w_93_25, w_93_26, w_93_27, w_93_28, w_93_29, w_93_30, w_93_31, w_93_32, w_93_33, w_93_34, w_93_35, w_93_36, w_93_37, w_93_38, w_93_39, w_93_40, w_93_41, w_93_42, w_93_43, w_93_44, w_93_45, w_93_46, w_93_47, w_93_48, w_93_49, w_93_50, w_93_51, w_93_52, w_93_53, w_93_54, w_93_55, w_93_56, w_93_57, w_93_58, w_93_59, w_93_60, w_93_61, w_93_62, w_93_63, w_93_64, w_93_65, w_93_66, w_93_67, getK, putK, ialK, iasK, aalK, aasK, alnK, zgt_u, zgt_a, Option.toList_some, Option.toList_none, List.cons_append, List.nil_append, List.map_cons, List.map_nil, List.replicate, ite_true, ite_false, if_true, if_false, List.getElem?_cons_zero, List.getElem?_cons_succ, List.set_cons_zero, List.set_cons_succ, true_and, and_true, beq_self_eq_true, zite, Int.toNat_natCast, if_pos, if_neg, zwr_id, zand, p_rc hP, p_groupE hP hz, and_self, true_or, or_true, hc, p_item hP hz, e0, e1]
        refine hih _ _ _ (by omega) (by omega) (by omega) (by omega) (fun m' w' l8 a1 a2 => hend m' w' l8 ?_ ?_)
        · rw [a1]
          show _ = m + ((if x.2.1 = cd then 1 - 2 * 0 else 0) + smF (ph 0 cd) S)
          rw [if_pos hcd]
          omega
        · rw [a2]
          show _ = wt + ((if x.2.1 = cd then (1 - 2 * 0) * x.2.2 else 0) + smF (ps 0 cd) S)
          rw [if_pos hcd]
          omega
      · simp (disch := omega) only [e_93, w_93_17, w_93_18, w_93_19, w_93_20, w_93_21, w_93_22, w_93_23, w_93_24, w_93_25, w_93_26, w_93_27, w_93_28, w_93_29, w_93_30, w_93_31, w_93_32, w_93_33, w_93_34, w_93_35, w_93_36, w_93_37, w_93_38, w_93_39, w_93_40, w_93_41, w_93_42, w_93_43, w_93_44, w_93_45, w_93_46, w_93_47, w_93_48, w_93_49, w_93_50, w_93_51, w_93_52, w_93_53, w_93_54, w_93_55, w_93_56, w_93_57, w_93_58, w_93_59, w_93_60, w_93_61, w_93_62, w_93_63, w_93_64, w_93_65, w_93_66, w_93_67, getK, putK, ialK, iasK, aalK, aasK, alnK, zgt_u, zgt_a, Option.toList_some, Option.toList_none, List.cons_append, List.nil_append, List.map_cons, List.map_nil, List.replicate, ite_true, ite_false, if_true, if_false, List.getElem?_cons_zero, List.getElem?_cons_succ, List.set_cons_zero, List.set_cons_succ, true_and, and_true, beq_self_eq_true, zite, Int.toNat_natCast, if_pos, if_neg, zwr_id, zand, p_rc hP, p_groupE hP hz, and_self, true_or, or_true, hc, p_item hP hz, e0, e1]
        refine hih _ _ _ (by omega) (by omega) (by omega) (by omega) (fun m' w' l8 a1 a2 => hend m' w' l8 ?_ ?_)
        · rw [a1]
          show _ = m + ((if x.2.1 = cd then 1 - 2 * 1 else 0) + smF (ph 1 cd) S)
          rw [if_pos hcd]
          omega
        · rw [a2]
          show _ = wt + ((if x.2.1 = cd then (1 - 2 * 1) * x.2.2 else 0) + smF (ps 1 cd) S)
          rw [if_pos hcd]
          omega
    · simp (disch := omega) only [e_93, w_93_17, w_93_18, w_93_19, w_93_20, w_93_21, w_93_22, w_93_23, w_93_24, w_93_25, w_93_26, w_93_27, w_93_28, w_93_29, w_93_30, w_93_31, w_93_32, w_93_33, w_93_34, w_93_35, w_93_36, w_93_37, w_93_38, w_93_39, w_93_40, w_93_41, w_93_42, w_93_43, w_93_44, w_93_45, w_93_46, w_93_47, w_93_48, w_93_49, w_93_50, w_93_51, w_93_52, w_93_53, w_93_54, w_93_55, w_93_56, w_93_57, w_93_58, w_93_59, w_93_60, w_93_61, w_93_62, w_93_63, w_93_64, w_93_65, w_93_66, w_93_67, getK, putK, ialK, iasK, aalK, aasK, alnK, zgt_u, zgt_a, Option.toList_some, Option.toList_none, List.cons_append, List.nil_append, List.map_cons, List.map_nil, List.replicate, ite_true, ite_false, if_true, if_false, List.getElem?_cons_zero, List.getElem?_cons_succ, List.set_cons_zero, List.set_cons_succ, true_and, and_true, beq_self_eq_true, zite, Int.toNat_natCast, if_pos, if_neg, zwr_id, zand, p_rc hP, p_groupE hP hz, and_self, true_or, or_true, hc, p_item hP hz, e0, e1]
      refine hih _ _ _ (by omega) (by omega) (by omega) (by omega) (fun m' w' l8 a1 a2 => hend m' w' l8 ?_ ?_)
      · rw [a1]
        show _ = m + ((if x.2.1 = cd then 1 - 2 * f else 0) + smF (ph f cd) S)
        rw [if_neg hcd, Int.zero_add]
      · rw [a2]
        show _ = wt + ((if x.2.1 = cd then (1 - 2 * f) * x.2.2 else 0) + smF (ps f cd) S)
        rw [if_neg hcd, Int.zero_add]
theorem lp_il11 {f cd w : Int} (hP : PP b1 b2 H z z2 c c2) (hz : okW z) (hf : f = 0 ∨ f = 1) : ∀ (j : Nat) (g m wt : Int) (l7 l8 : Option zV), g + j = 7 → 0 ≤ g → -900000 + 48 * (j : Int) ≤ m → m ≤ 900000 - 48 * (j : Int) → -900000 + 4752 * (j : Int) ≤ wt → wt ≤ 900000 - 4752 * (j : Int) → (∀ m' w' l7 l8, m' = m + smH (ph f cd) (srtF (famS z f)) j g → w' = wt + smH (ps f cd) (srtF (famS z f)) j g → zwp sc 93 70 [some (.inr (.inl (some b1))), some (.inl cd), some (.inl w), some (.inl m'), some (.inl w'), some (.inl f), some (.inl 7), l7, l8] [] H Q) → zwp sc 93 11 [some (.inr (.inl (some b1))), some (.inl cd), some (.inl w), some (.inl m), some (.inl wt), some (.inl f), some (.inl g), l7, l8] [] H Q := by
  intro j
  induction j with
  | zero =>
    intro g m wt l7 l8 hg h0 m1 m2 w1 w2 hend
    have hg7 : g = 7 := by omega
    subst hg7
    rw [w_93_11]
    simp (disch := omega) only [e_93, w_93_12, w_93_13, getK, putK, ialK, iasK, aalK, aasK, alnK, zgt_u, zgt_a, Option.toList_some, Option.toList_none, List.cons_append, List.nil_append, List.map_cons, List.map_nil, List.replicate, ite_true, ite_false, if_true, if_false, List.getElem?_cons_zero, List.getElem?_cons_succ, List.set_cons_zero, List.set_cons_succ, true_and, and_true, beq_self_eq_true, zite, Int.toNat_natCast, if_pos, if_neg, zwr_id, zand]
    exact hend m wt l7 l8 (by show m = m + 0; omega) (by show wt = wt + 0; omega)
  | succ j ih =>
    intro g m wt l7 l8 hg h0 m1 m2 w1 w2 hend
    have hg6 : 0 ≤ g ∧ g ≤ 6 := by omega
    obtain ⟨q1, q2, q3, q4, q5, q6, q7, q8, -⟩ := grp_ok hz (f := f) (by omega) hg6
    rw [w_93_11]
    simp (disch := omega) only [e_93, w_93_12, w_93_13, w_93_14, w_93_15, getK, putK, ialK, iasK, aalK, aasK, alnK, zgt_u, zgt_a, Option.toList_some, Option.toList_none, List.cons_append, List.nil_append, List.map_cons, List.map_nil, List.replicate, ite_true, ite_false, if_true, if_false, List.getElem?_cons_zero, List.getElem?_cons_succ, List.set_cons_zero, List.set_cons_succ, true_and, and_true, beq_self_eq_true, zite, Int.toNat_natCast, if_pos, if_neg, zwr_id, zand]
    refine lp_il16 hP hz.1 hf hg6 q1 q4 q5 q7 (sgS z f g) [] m wt l8 (List.nil_append _) (by omega) (by omega) (by omega) (by omega) (fun m' w' l8 a1 a2 => ?_)
    have b1 := ph_b (cd := cd) hf (sgS z f g)
    have b2 := ps_b (cd := cd) hf q1
    simp (disch := omega) only [e_93, w_93_68, w_93_69, getK, putK, ialK, iasK, aalK, aasK, alnK, zgt_u, zgt_a, Option.toList_some, Option.toList_none, List.cons_append, List.nil_append, List.map_cons, List.map_nil, List.replicate, ite_true, ite_false, if_true, if_false, List.getElem?_cons_zero, List.getElem?_cons_succ, List.set_cons_zero, List.set_cons_succ, true_and, and_true, beq_self_eq_true, zite, Int.toNat_natCast, if_pos, if_neg, zwr_id, zand]
    refine ih (g + 1) m' w' _ l8 (by omega) (by omega) (by omega) (by omega) (by omega) (by omega) (fun m'' w'' l7 l8 d1 d2 => hend m'' w'' l7 l8 ?_ ?_)
    · rw [d1, a1]
      show _ = m + (smF (ph f cd) (sgS z f g) + smH (ph f cd) (srtF (famS z f)) j (g + 1))
      omega
    · rw [d2, a2]
      show _ = wt + (smF (ps f cd) (sgS z f g) + smH (ps f cd) (srtF (famS z f)) j (g + 1))
      omega
theorem smF_zero {φ : Int × Int → Int} : ∀ {L : List zI}, (∀ x ∈ L, φ x.2 = 0) → smF φ L = 0
  | [], _ => rfl
  | x :: L, h => by
    have ih := smF_zero (L := L) (fun y hy => h y (List.mem_cons_of_mem _ hy))
    have := h x List.mem_cons_self
    unfold smF
    omega
theorem live_one {L : List zI} {k : Int} {φ : Int × Int → Int} (hs : srtL L) (h0 : 0 ≤ k) (hk : k < (L.length : Int)) (hφ : ∀ p, p.1 ≠ (gI L k).2.1 → φ p = 0) : smF φ L = φ (gI L k).2 := by
  obtain ⟨a1, a2⟩ := gI_mem h0 hk
  generalize gI L k = x at *
  obtain ⟨P, S, rfl⟩ := List.append_of_mem a2
  have hp := List.pairwise_append.mp hs.2
  have hc := List.pairwise_cons.mp hp.2.1
  rw [smF_app, smF_zero (L := P) (fun y hy => hφ _ ?_)]
  · show 0 + (φ x.2 + smF φ S) = _
    rw [smF_zero (L := S) (fun y hy => hφ _ ?_)]
    · omega
    · have := hc.1 y hy
      intro e
      have e : y.2.1 = x.2.1 := e
      omega
  · have := hp.2.2 y hy x List.mem_cons_self
    intro e
    have e : y.2.1 = x.2.1 := e
    omega
theorem l_isLive {k : Int} (hP : PP b1 b2 H z z2 c c2) (hz : okW z) (h0 : 0 ≤ k) (hk : k < (z.S.1.length : Int)) : zca sc 93 [.inr (.inl (some b1)), .inl (gI z.S.1 k).2.1, .inl (gI z.S.1 k).2.2] H Q = Q (some (.inl 1)) H := by
  refine zca_det ?_
  have hs := hz.1.1.2.2.2.1
  obtain ⟨o0, o0l, -⟩ := fam_ok hz (f := 0) (by omega)
  obtain ⟨o1, o1l, -⟩ := fam_ok hz (f := 1) (by omega)
  have hE := hz.2.1
  generalize hcd : (gI z.S.1 k).2.1 = cd
  generalize hw : (gI z.S.1 k).2.2 = w
  have t1 : ∀ (φ : Int × Int → Int) (f : Int), okIs (famS z f) → smH φ (srtF (famS z f)) 7 0 = smF φ (famS z f) := fun φ f ho => by
    rw [smH_7 (okIs_perm (srtF_perm _).symm ho), smF_perm (srtF_perm _)]
  have k1 : smF (ph 0 cd) (famS z 0) + smF (ph 1 cd) (famS z 1) = 1 := by
    have e1 := smF_neg (φ := ph 0 cd) (ψ := ph 1 cd) (fun p => by unfold ph; split <;> omega) (L := famS z 1)
    have e2 : smF (ph 0 cd) (famS z 0) = smF (ph 0 cd) (famS z 1) + smF (ph 0 cd) z.S.1 := smF_E hE
    have e3 := live_one (φ := ph 0 cd) hs h0 hk (fun p hp => by unfold ph; rw [if_neg (by rw [← hcd]; exact hp)])
    have e4 : ph 0 cd (gI z.S.1 k).2 = 1 := by unfold ph; rw [if_pos hcd]; rfl
    omega
  have k2 : smF (ps 0 cd) (famS z 0) + smF (ps 1 cd) (famS z 1) = w := by
    have e1 := smF_neg (φ := ps 0 cd) (ψ := ps 1 cd) (fun p => by unfold ps; split <;> omega) (L := famS z 1)
    have e2 : smF (ps 0 cd) (famS z 0) = smF (ps 0 cd) (famS z 1) + smF (ps 0 cd) z.S.1 := smF_E hE
    have e3 := live_one (φ := ps 0 cd) hs h0 hk (fun p hp => by unfold ps; rw [if_neg (by rw [← hcd]; exact hp)])
    have e4 : ps 0 cd (gI z.S.1 k).2 = w := by unfold ps; rw [if_pos hcd, hw]; omega
    omega
  have p1 := ph_b (cd := cd) (f := 0) (Or.inl rfl) (famS z 0)
  have p2 := ps_b (cd := cd) (f := 0) (Or.inl rfl) o0
  simp (disch := omega) only [e_93, w_93_0, w_93_1, w_93_2, w_93_3, w_93_4, w_93_5, getK, putK, ialK, iasK, aalK, aasK, alnK, zgt_u, zgt_a, Option.toList_some, Option.toList_none, List.cons_append, List.nil_append, List.map_cons, List.map_nil, List.replicate, ite_true, ite_false, if_true, if_false, List.getElem?_cons_zero, List.getElem?_cons_succ, List.set_cons_zero, List.set_cons_succ, true_and, and_true, beq_self_eq_true, zite, Int.toNat_natCast, if_pos, if_neg, zwr_id, zand]
  rw [w_93_6]
  simp (disch := omega) only [e_93, w_93_7, w_93_8, w_93_9, w_93_10, getK, putK, ialK, iasK, aalK, aasK, alnK, zgt_u, zgt_a, Option.toList_some, Option.toList_none, List.cons_append, List.nil_append, List.map_cons, List.map_nil, List.replicate, ite_true, ite_false, if_true, if_false, List.getElem?_cons_zero, List.getElem?_cons_succ, List.set_cons_zero, List.set_cons_succ, true_and, and_true, beq_self_eq_true, zite, Int.toNat_natCast, if_pos, if_neg, zwr_id, zand]
  refine lp_il11 hP hz (Or.inl rfl) 7 0 0 0 _ _ (by omega) (by omega) (by omega) (by omega) (by omega) (by omega) (fun m w' l7 l8 a1 a2 => ?_)
  rw [t1 _ 0 o0, Int.zero_add] at a1 a2
  simp (disch := omega) only [e_93, w_93_70, w_93_71, getK, putK, ialK, iasK, aalK, aasK, alnK, zgt_u, zgt_a, Option.toList_some, Option.toList_none, List.cons_append, List.nil_append, List.map_cons, List.map_nil, List.replicate, ite_true, ite_false, if_true, if_false, List.getElem?_cons_zero, List.getElem?_cons_succ, List.set_cons_zero, List.set_cons_succ, true_and, and_true, beq_self_eq_true, zite, Int.toNat_natCast, if_pos, if_neg, zwr_id, zand]
  rw [w_93_6]
  simp (disch := omega) only [e_93, w_93_7, w_93_8, w_93_9, w_93_10, getK, putK, ialK, iasK, aalK, aasK, alnK, zgt_u, zgt_a, Option.toList_some, Option.toList_none, List.cons_append, List.nil_append, List.map_cons, List.map_nil, List.replicate, ite_true, ite_false, if_true, if_false, List.getElem?_cons_zero, List.getElem?_cons_succ, List.set_cons_zero, List.set_cons_succ, true_and, and_true, beq_self_eq_true, zite, Int.toNat_natCast, if_pos, if_neg, zwr_id, zand]
  refine lp_il11 hP hz (Or.inr rfl) 7 0 m w' _ _ (by omega) (by omega) (by omega) (by omega) (by omega) (by omega) (fun m2 w2 l7 l8 d1 d2 => ?_)
  rw [t1 _ 1 o1] at d1 d2
  simp (disch := omega) only [e_93, w_93_70, w_93_71, getK, putK, ialK, iasK, aalK, aasK, alnK, zgt_u, zgt_a, Option.toList_some, Option.toList_none, List.cons_append, List.nil_append, List.map_cons, List.map_nil, List.replicate, ite_true, ite_false, if_true, if_false, List.getElem?_cons_zero, List.getElem?_cons_succ, List.set_cons_zero, List.set_cons_succ, true_and, and_true, beq_self_eq_true, zite, Int.toNat_natCast, if_pos, if_neg, zwr_id, zand]
  rw [w_93_6]
  have x1 : m2 = 1 := by omega
  have x2 : w2 = w := by omega
  simp (disch := omega) only [e_93, w_93_7, w_93_8, w_93_9, w_93_10, w_93_12, w_93_13, w_93_14, w_93_15, w_93_17, w_93_18, w_93_19, w_93_20, w_93_21, w_93_22, w_93_23, w_93_24, w_93_25, w_93_26, w_93_27, w_93_28, w_93_29, w_93_30, w_93_31, w_93_32, w_93_33, w_93_34, w_93_35, w_93_36, w_93_37, w_93_38, w_93_39, w_93_40, w_93_41, w_93_42, w_93_43, w_93_44, w_93_45, w_93_46, w_93_47, w_93_48, w_93_49, w_93_50, w_93_51, w_93_52, w_93_53, w_93_54, w_93_55, w_93_56, w_93_57, w_93_58, w_93_59, w_93_60, w_93_61, w_93_62, w_93_63, w_93_64, w_93_65, w_93_66, w_93_67, w_93_68, w_93_69, w_93_70, w_93_71, w_93_72, w_93_73, w_93_74, w_93_75, w_93_76, w_93_77, w_93_78, w_93_79, w_93_80, w_93_81, getK, putK, ialK, iasK, aalK, aasK, alnK, zgt_u, zgt_a, Option.toList_some, Option.toList_none, List.cons_append, List.nil_append, List.map_cons, List.map_nil, List.replicate, ite_true, ite_false, if_true, if_false, List.getElem?_cons_zero, List.getElem?_cons_succ, List.set_cons_zero, List.set_cons_succ, true_and, and_true, beq_self_eq_true, zite, Int.toNat_natCast, if_pos, if_neg, zwr_id, zand, x1, x2, true_or, or_true]
end
