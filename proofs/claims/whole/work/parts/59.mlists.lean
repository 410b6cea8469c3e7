/-! THE MODEL'S LISTS CHANGED -/
def rS (w : Int → Int) : Int → List zI → Prop
  | _, [] => True
  | k, x :: L => w (1 + k) = x.2.1 ∧ w (25 + k) = x.2.2 ∧ rS w (k + 1) L
def rG (w : Int → Int) (b : Int) : Int → List zI → Prop
  | _, [] => True
  | k, x :: L => w (b + 1 + k) = x.2.1 ∧ w (b + 1 + 64 + k) = x.2.2 ∧ w (b + 1 + 128 + k) = x.1 ∧ rG w b (k + 1) L
theorem gI_0 {x : zI} {L : List zI} : gI (x :: L) 0 = x := rfl
theorem gI_s {x : zI} {L : List zI} {i : Int} (h : 0 < i) : gI (x :: L) i = gI L (i - 1) := by
  unfold gI
  rw [if_pos (by omega), if_pos (by omega), show i.toNat = (i - 1).toNat + 1 by omega]
  rfl
theorem rS_iff {w : Int → Int} : ∀ {L : List zI} {k : Int}, rS w k L ↔ ∀ i : Int, 0 ≤ i → i < L.length → w (1 + (k + i)) = (gI L i).2.1 ∧ w (25 + (k + i)) = (gI L i).2.2
  | [], k => ⟨fun _ i h0 h1 => by simp at h1; omega, fun _ => trivial⟩
  | x :: L, k => by
    unfold rS
    rw [rS_iff (L := L)]
    constructor
    · rintro ⟨a, b, c⟩ i h0 h1
      rw [List.length_cons] at h1
      by_cases hi : i = 0
      · subst hi
        rw [Int.add_zero, gI_0]
        exact ⟨a, b⟩
      · rw [gI_s (by omega)]
        have := c (i - 1) (by omega) (by omega)
        rw [show k + 1 + (i - 1) = k + i by omega] at this
        exact this
    · intro h
      rw [List.length_cons] at h
      have h0 := h 0 (Int.le_refl _) (by omega)
      rw [Int.add_zero, gI_0] at h0
      refine ⟨h0.1, h0.2, fun i a b => ?_⟩
      have := h (i + 1) (by omega) (by omega)
      rw [gI_s (by omega), show i + 1 - 1 = i by omega, show k + (i + 1) = k + 1 + i by omega] at this
      exact this
theorem rL_S {w : Int → Int} {L : List zI} : rL w L ↔ w 0 = L.length ∧ rS w 0 L := by
  unfold rL
  rw [rS_iff]
  simp only [Int.zero_add]
theorem rG_iff {w : Int → Int} {b : Int} : ∀ {L : List zI} {k : Int}, rG w b k L ↔ ∀ i : Int, 0 ≤ i → i < L.length → w (b + 1 + (k + i)) = (gI L i).2.1 ∧ w (b + 1 + 64 + (k + i)) = (gI L i).2.2 ∧ w (b + 1 + 128 + (k + i)) = (gI L i).1
  | [], k => ⟨fun _ i h0 h1 => by simp at h1; omega, fun _ => trivial⟩
  | x :: L, k => by
    unfold rG
    rw [rG_iff (L := L)]
    constructor
    · rintro ⟨a, b, d, c⟩ i h0 h1
      rw [List.length_cons] at h1
      by_cases hi : i = 0
      · subst hi
        rw [Int.add_zero, gI_0]
        exact ⟨a, b, d⟩
      · rw [gI_s (by omega)]
        have := c (i - 1) (by omega) (by omega)
        rw [show k + 1 + (i - 1) = k + i by omega] at this
        exact this
    · intro h
      rw [List.length_cons] at h
      have h0 := h 0 (Int.le_refl _) (by omega)
      rw [Int.add_zero, gI_0] at h0
      refine ⟨h0.1, h0.2.1, h0.2.2, fun i a b => ?_⟩
      have := h (i + 1) (by omega) (by omega)
      rw [gI_s (by omega), show i + 1 - 1 = i by omega, show k + (i + 1) = k + 1 + i by omega] at this
      exact this
theorem rF_G {w : Int → Int} {b : Int} {L : List zI} : rF w b L ↔ w b = L.length ∧ rG w b 0 L := by
  unfold rF
  rw [rG_iff]
  simp only [Int.zero_add]
theorem rS_app {w : Int → Int} : ∀ {A B : List zI} {k : Int}, rS w k (A ++ B) ↔ rS w k A ∧ rS w (k + A.length) B
  | [], B, k => by simp [rS]
  | x :: A, B, k => by
    show (_ ∧ _ ∧ rS w (k + 1) (A ++ B)) ↔ (_ ∧ _ ∧ rS w (k + 1) A) ∧ _
    rw [rS_app, List.length_cons, show k + 1 + (A.length : Int) = k + ((A.length + 1 : Nat) : Int) by omega]
    constructor
    · rintro ⟨a, b, c, d⟩; exact ⟨⟨a, b, c⟩, d⟩
    · rintro ⟨⟨a, b, c⟩, d⟩; exact ⟨a, b, c, d⟩
theorem rG_app {w : Int → Int} {b : Int} : ∀ {A B : List zI} {k : Int}, rG w b k (A ++ B) ↔ rG w b k A ∧ rG w b (k + A.length) B
  | [], B, k => by simp [rG]
  | x :: A, B, k => by
    show (_ ∧ _ ∧ _ ∧ rG w b (k + 1) (A ++ B)) ↔ (_ ∧ _ ∧ _ ∧ rG w b (k + 1) A) ∧ _
    rw [rG_app, List.length_cons, show k + 1 + (A.length : Int) = k + ((A.length + 1 : Nat) : Int) by omega]
    constructor
    · rintro ⟨a, b, c, d, e⟩; exact ⟨⟨a, b, c, d⟩, e⟩
    · rintro ⟨⟨a, b, c, d⟩, e⟩; exact ⟨a, b, c, d, e⟩
theorem rS_ext {w w' : Int → Int} : ∀ {L : List zI} {k : Int}, rS w k L → (∀ i, k ≤ i → i < k + L.length → w' (1 + i) = w (1 + i) ∧ w' (25 + i) = w (25 + i)) → rS w' k L
  | [], _, _, _ => trivial
  | x :: L, k, h, he => by
    obtain ⟨a, b, c⟩ := h
    simp only [List.length_cons] at he
    obtain ⟨e1, e2⟩ := he k (Int.le_refl _) (by omega)
    exact ⟨by rw [e1, a], by rw [e2, b], rS_ext c (fun i h1 h2 => he i (by omega) (by omega))⟩
theorem rG_ext {w w' : Int → Int} {b : Int} : ∀ {L : List zI} {k : Int}, rG w b k L → (∀ i, k ≤ i → i < k + L.length → w' (b + 1 + i) = w (b + 1 + i) ∧ w' (b + 1 + 64 + i) = w (b + 1 + 64 + i) ∧ w' (b + 1 + 128 + i) = w (b + 1 + 128 + i)) → rG w' b k L
  | [], _, _, _ => trivial
  | x :: L, k, h, he => by
    obtain ⟨a, b, c, d⟩ := h
    simp only [List.length_cons] at he
    obtain ⟨e1, e2, e3⟩ := he k (Int.le_refl _) (by omega)
    exact ⟨by rw [e1, a], by rw [e2, b], by rw [e3, c], rG_ext d (fun i h1 h2 => he i (by omega) (by omega))⟩
section
variable {sc : Nat × (Int → Int)} {h : zH} {Q : Option zV → zH → Prop} {pm fl p n : Int} {w : Int → Int} {M : List zI} {f : Int}
theorem mF_u (hO : mF h pm fl p n w) (w' : Int → Int) : mF (zuH h 25 (.inr (.inl (437, w')))) pm fl p n w' := ⟨by rw [zgt_u, if_neg (by omega)]; exact hO.1, by rw [zgt_u, if_pos rfl]⟩
theorem s6_addItem {c v g : Int} (hO : mF h pm fl p n w) (hf : 0 ≤ f ∧ f ≤ 1) (hF : rF w (49 + 193 * f) M) (hl : M.length < 64) (hQ : ∀ h' w', mF h' pm fl p n w' → rF w' (49 + 193 * f) (M ++ [(g, c, v)]) → (∀ k, k < 49 + 193 * f ∨ 49 + 193 * f + 193 ≤ k → w' k = w k) → fr h h' 25 1 → Q none h') : zca sc 110 [.inr (.inl (some 24)), .inl f, .inl c, .inl v, .inl g] h Q := by
  obtain ⟨hO1, hW⟩ := id hO
  obtain ⟨f1, f2⟩ := rF_G.mp hF
  simp (disch := omega) only [e_110, w_110_0, w_110_1, w_110_2, w_110_3, w_110_4, w_110_5, w_110_6, w_110_7, w_110_8, w_110_9, w_110_10, w_110_11, w_110_12, w_110_13, w_110_14, w_110_15, w_110_16, w_110_17, w_110_18, w_110_19, w_110_20, w_110_21, w_110_22, w_110_23, w_110_24, w_110_25, w_110_26, w_110_27, w_110_28, w_110_29, w_110_30, w_110_31, w_110_32, w_110_33, w_110_34, w_110_35, w_110_36, w_110_37, w_110_38, w_110_39, w_110_40, w_110_41, w_110_42, w_110_43, w_110_44, w_110_45, w_110_46, w_110_47, getK, putK, ialK, iasK, aalK, aasK, alnK, zgt_u, zgt_a, Option.toList_some, Option.toList_none, List.cons_append, List.nil_append, List.map_cons, List.map_nil, List.replicate, ite_true, ite_false, if_true, if_false, List.getElem?_cons_zero, List.getElem?_cons_succ, List.set_cons_zero, List.set_cons_succ, true_and, and_true, beq_self_eq_true, zite, Int.toNat_natCast, if_pos, if_neg, zwr_id, zand, mF_rc hO, s6_items hO.1 hO.2 hf, f1, hO1, hW, s6_family hf, Nat.reduceEqDiff, zup_n]
  refine hQ _ _ (mF_u (mF_u (mF_u (mF_u hO _) _) _) _) (rF_G.mpr ⟨?_, rG_app.mpr ⟨rG_ext f2 (fun i h1 h2 => ?_), ?_⟩⟩) (fun k hk => ?_) (fr_u (fr_u (fr_u (fr_u fr_rf (by omega) (by omega)) (by omega) (by omega)) (by omega) (by omega)) (by omega) (by omega))
  · rw [zup_s, List.length_append, List.length_singleton]
    omega
  · simp (disch := omega) only [zup_n]
    exact ⟨trivial, trivial, trivial⟩
  · rw [Int.zero_add]
    refine ⟨?_, ?_, ?_, trivial⟩
    · simp (disch := omega) only [zup_n, zup_s]
    · simp (disch := omega) only [zup_n, zup_s]
    · simp (disch := omega) only [zup_n, zup_s]
  · simp (disch := omega) only [zup_n]
theorem lp_put1 {c v : Int} {l5 : Option zV} (hO : mF h pm fl p n w) (hf : 0 ≤ f ∧ f ≤ 1) (hF : rF w (49 + 193 * f) M) (hl : M.length ≤ 64) (h6 : lgM M ≤ 6) (h0' : cti (lgM M) M = 0) (hne : ∀ j, 0 ≤ j → j < lgM M → cti j M ≠ 0) : ∀ (j : Nat) (g : Int), g + j = lgM M → 0 ≤ g → zwp sc 111 2 [some (.inr (.inl (some 24))), some (.inl f), some (.inl c), some (.inl v), some (.inl g), l5] [] h Q = zwp sc 111 9 [some (.inr (.inl (some 24))), some (.inl f), some (.inl c), some (.inl v), some (.inl (lgM M)), l5] [] h Q := by
  intro j
  induction j with
  | zero =>
    intro g hg h0
    rw [Int.natCast_zero, Int.add_zero] at hg
    subst hg
    rw [w_111_2]
    simp (disch := omega) only [e_111, w_111_3, w_111_4, w_111_5, w_111_6, w_111_7, w_111_8, getK, putK, ialK, iasK, aalK, aasK, alnK, zgt_u, zgt_a, Option.toList_some, Option.toList_none, List.cons_append, List.nil_append, List.map_cons, List.map_nil, List.replicate, ite_true, ite_false, if_true, if_false, List.getElem?_cons_zero, List.getElem?_cons_succ, List.set_cons_zero, List.set_cons_succ, true_and, and_true, beq_self_eq_true, zite, Int.toNat_natCast, if_pos, if_neg, zwr_id, zand, mF_rc hO, s6_itemsIn hO.1 hO.2 hf hF hl, h0']
  | succ j ih =>
    intro g hg h0
    have h1 := hne g h0 (by omega)
    have h2 := (cti_b g M).1
    rw [w_111_2]
    simp (disch := omega) only [e_111, w_111_3, w_111_4, w_111_5, w_111_6, w_111_7, w_111_8, getK, putK, ialK, iasK, aalK, aasK, alnK, zgt_u, zgt_a, Option.toList_some, Option.toList_none, List.cons_append, List.nil_append, List.map_cons, List.map_nil, List.replicate, ite_true, ite_false, if_true, if_false, List.getElem?_cons_zero, List.getElem?_cons_succ, List.set_cons_zero, List.set_cons_succ, true_and, and_true, beq_self_eq_true, zite, Int.toNat_natCast, if_pos, if_neg, zwr_id, zand, mF_rc hO, s6_itemsIn hO.1 hO.2 hf hF hl]
    exact ih (g + 1) (by omega) (by omega)
theorem lp_put2 {c v g : Int} (hf : 0 ≤ f ∧ f ≤ 1) (hl : M.length ≤ 64) (hg : 0 ≤ g ∧ g ≤ 6) : ∀ (B A : List zI) (h : zH) (w' : Int → Int), M = A ++ B → mF h pm fl p n w' → rF w' (49 + 193 * f) (A.map (rg g) ++ B) → (∀ k, k < 49 + 193 * f ∨ 49 + 193 * f + 193 ≤ k → w' k = w k) → (∀ h' w'' l5, mF h' pm fl p n w'' → rF w'' (49 + 193 * f) (M.map (rg g)) → (∀ k, k < 49 + 193 * f ∨ 49 + 193 * f + 193 ≤ k → w'' k = w k) → fr h h' 25 1 → zwp sc 111 36 [some (.inr (.inl (some 24))), some (.inl f), some (.inl c), some (.inl v), some (.inl g), l5] [] h' Q) → zwp sc 111 11 [some (.inr (.inl (some 24))), some (.inl f), some (.inl c), some (.inl v), some (.inl g), some (.inl (A.length : Int))] [] h Q := by
  intro B
  induction B with
  | nil =>
    intro A h w' e hO hF ho hQ
    rw [List.append_nil] at e hF
    subst e
    have hw := hF.1
    rw [List.length_map] at hw
    have := hQ h w' (some (.inl (M.length : Int))) hO hF ho fr_rf
    rw [w_111_11]
    simp (disch := omega) only [e_111, w_111_12, w_111_13, w_111_14, w_111_15, w_111_16, w_111_17, w_111_18, w_111_19, w_111_20, w_111_21, w_111_22, w_111_23, w_111_24, w_111_25, w_111_26, w_111_27, w_111_28, w_111_29, w_111_30, w_111_31, w_111_32, w_111_33, w_111_34, w_111_35, getK, putK, ialK, iasK, aalK, aasK, alnK, zgt_u, zgt_a, Option.toList_some, Option.toList_none, List.cons_append, List.nil_append, List.map_cons, List.map_nil, List.replicate, ite_true, ite_false, if_true, if_false, List.getElem?_cons_zero, List.getElem?_cons_succ, List.set_cons_zero, List.set_cons_succ, true_and, and_true, beq_self_eq_true, zite, Int.toNat_natCast, if_pos, if_neg, zwr_id, zand, mF_rc hO, s6_items hO.1 hO.2 hf, hw]
    exact this
  | cons x B ih =>
    intro A h w' e hO hF ho hQ
    have hO1 := hO.1
    have hW := hO.2
    have hw := hF.1
    have hlen : M.length = A.length + (B.length + 1) := by rw [e]; simp
    have hlA : ((A.map (rg g)).length : Int) = A.length := by rw [List.length_map]
    rw [List.length_append, List.length_map, List.length_cons, ← hlen] at hw
    have hx := (hF.2 ((A.map (rg g)).length : Int) (by omega) (by rw [List.length_append, List.length_cons]; omega)).2.2
    rw [gI_app, hlA] at hx
    have ih := fun h w' => ih (A ++ [x]) h w' (by rw [e]; simp)
    rw [List.length_append, List.length_singleton, show ((A.length + 1 : Nat) : Int) = (A.length : Int) + 1 by omega, List.map_append, List.map_cons, List.map_nil, List.append_assoc, List.singleton_append] at ih
    rw [w_111_11]
    by_cases c1 : x.1 < g
    · simp (disch := omega) only [e_111, w_111_12, w_111_13, w_111_14, w_111_15, w_111_16, w_111_17, w_111_18, w_111_19, w_111_20, w_111_21, w_111_22, w_111_23, w_111_24, w_111_25, w_111_26, w_111_27, w_111_28, w_111_29, w_111_30, w_111_31, w_111_32, w_111_33, w_111_34, w_111_35, getK, putK, ialK, iasK, aalK, aasK, alnK, zgt_u, zgt_a, Option.toList_some, Option.toList_none, List.cons_append, List.nil_append, List.map_cons, List.map_nil, List.replicate, ite_true, ite_false, if_true, if_false, List.getElem?_cons_zero, List.getElem?_cons_succ, List.set_cons_zero, List.set_cons_succ, true_and, and_true, beq_self_eq_true, zite, Int.toNat_natCast, if_pos, if_neg, zwr_id, zand, mF_rc hO, s6_items hO.1 hO.2 hf, hw, s6_groupAt hO.1 hO.2 hf, hx, hO1, hW, s6_family hf]
      have hrg : rg g x = (g, x.2) := if_pos c1
      refine ih _ _ (mF_u hO _) ?_ (fun k hk => ?_) (fun h' w'' l5 a1 a2 a3 a4 => hQ h' w'' l5 a1 a2 a3 (fr_tr (fr_u fr_rf (by omega) (by omega)) a4))
      · obtain ⟨q0, q1⟩ := rF_G.mp hF
        obtain ⟨q1, q2, q3, q4, q5⟩ := rG_app.mp q1
        rw [Int.zero_add, hlA] at q2 q3 q4 q5
        rw [hrg]
        refine rF_G.mpr ⟨?_, rG_app.mpr ⟨rG_ext q1 (fun i a b => ?_), ?_⟩⟩
        · rw [zup_n (by omega), q0]
          simp
        · rw [hlA] at b
          simp (disch := omega) only [zup_n]
          exact ⟨trivial, trivial, trivial⟩
        · rw [Int.zero_add, hlA]
          refine ⟨?_, ?_, ?_, rG_ext q5 (fun i a b => ?_)⟩
          · rw [zup_n (by omega)]; exact q2
          · rw [zup_n (by omega)]; exact q3
          · rw [zup_s]
          · refine ⟨zup_n (by omega), zup_n (by omega), zup_n (by omega)⟩
      · rw [zup_n (by omega)]; exact ho k hk
    · simp (disch := omega) only [e_111, w_111_12, w_111_13, w_111_14, w_111_15, w_111_16, w_111_17, w_111_18, w_111_19, w_111_20, w_111_21, w_111_22, w_111_23, w_111_24, w_111_25, w_111_26, w_111_27, w_111_28, w_111_29, w_111_30, w_111_31, w_111_32, w_111_33, w_111_34, w_111_35, getK, putK, ialK, iasK, aalK, aasK, alnK, zgt_u, zgt_a, Option.toList_some, Option.toList_none, List.cons_append, List.nil_append, List.map_cons, List.map_nil, List.replicate, ite_true, ite_false, if_true, if_false, List.getElem?_cons_zero, List.getElem?_cons_succ, List.set_cons_zero, List.set_cons_succ, true_and, and_true, beq_self_eq_true, zite, Int.toNat_natCast, if_pos, if_neg, zwr_id, zand, mF_rc hO, s6_items hO.1 hO.2 hf, hw, s6_groupAt hO.1 hO.2 hf, hx]
      have hrg : rg g x = x := if_neg c1
      refine ih h w' hO ?_ ho hQ
      rw [hrg]
      exact hF
theorem s6_put {c v : Int} (hO : mF h pm fl p n w) (hf : 0 ≤ f ∧ f ≤ 1) (hF : rF w (49 + 193 * f) M) (hl : M.length < 48) (ho : okIs M) (hg : gOK M) (hc : wd c) (hv : -99 ≤ v ∧ v ≤ 99) (hQ : ∀ h' w', mF h' pm fl p n w' → rF w' (49 + 193 * f) (ptM M c v) → w' 435 = zwr (w 435 + lti (lgM M) (ptM M c v)) → (∀ k, k < 49 + 193 * f ∨ 49 + 193 * f + 193 ≤ k → k ≠ 435 → w' k = w k) → fr h h' 25 1 → Q (some (.inl (lgM M))) h') : zca sc 111 [.inr (.inl (some 24)), .inl f, .inl c, .inl v] h Q := by
  obtain ⟨l1, l2, l3, l4⟩ := lgM_ok ho hg (by omega)
  obtain ⟨p1, p2, p3⟩ := ptM_ok (c := c) (w := v) ho hg (by omega) hc hv
  simp (disch := omega) only [e_111, w_111_0, w_111_1, getK, putK, ialK, iasK, aalK, aasK, alnK, zgt_u, zgt_a, Option.toList_some, Option.toList_none, List.cons_append, List.nil_append, List.map_cons, List.map_nil, List.replicate, ite_true, ite_false, if_true, if_false, List.getElem?_cons_zero, List.getElem?_cons_succ, List.set_cons_zero, List.set_cons_succ, true_and, and_true, beq_self_eq_true, zite, Int.toNat_natCast, if_pos, if_neg, zwr_id, zand]
  rw [lp_put1 hO hf hF (by omega) l2 l3 l4 (lgM M).toNat 0 (by omega) (Int.le_refl _)]
  simp (disch := omega) only [e_111, w_111_9, w_111_10, getK, putK, ialK, iasK, aalK, aasK, alnK, zgt_u, zgt_a, Option.toList_some, Option.toList_none, List.cons_append, List.nil_append, List.map_cons, List.map_nil, List.replicate, ite_true, ite_false, if_true, if_false, List.getElem?_cons_zero, List.getElem?_cons_succ, List.set_cons_zero, List.set_cons_succ, true_and, and_true, beq_self_eq_true, zite, Int.toNat_natCast, if_pos, if_neg, zwr_id, zand]
  refine lp_put2 (M := M) (w := w) hf (by omega) ⟨l1, l2⟩ M [] h w rfl hO hF (fun _ _ => rfl) (fun h1 w1 l5 a1 a2 a3 a4 => ?_)
  simp (disch := omega) only [e_111, w_111_36, w_111_37, w_111_38, w_111_39, w_111_40, w_111_41, w_111_42, w_111_43, w_111_44, w_111_45, w_111_46, w_111_47, w_111_48, w_111_49, w_111_50, w_111_51, w_111_52, w_111_53, w_111_54, getK, putK, ialK, iasK, aalK, aasK, alnK, zgt_u, zgt_a, Option.toList_some, Option.toList_none, List.cons_append, List.nil_append, List.map_cons, List.map_nil, List.replicate, ite_true, ite_false, if_true, if_false, List.getElem?_cons_zero, List.getElem?_cons_succ, List.set_cons_zero, List.set_cons_succ, true_and, and_true, beq_self_eq_true, zite, Int.toNat_natCast, if_pos, if_neg, zwr_id, zand, mF_rc a1]
  refine s6_addItem a1 hf a2 (by rw [List.length_map]; omega) (fun h2 w2 b1 b2 b3 b4 => ?_)
  have b2 : rF w2 (49 + 193 * f) (ptM M c v) := b2
  have hO2 := b1.1
  have hW2 := b1.2
  simp (disch := omega) only [e_111, w_111_36, w_111_37, w_111_38, w_111_39, w_111_40, w_111_41, w_111_42, w_111_43, w_111_44, w_111_45, w_111_46, w_111_47, w_111_48, w_111_49, w_111_50, w_111_51, w_111_52, w_111_53, w_111_54, getK, putK, ialK, iasK, aalK, aasK, alnK, zgt_u, zgt_a, Option.toList_some, Option.toList_none, List.cons_append, List.nil_append, List.map_cons, List.map_nil, List.replicate, ite_true, ite_false, if_true, if_false, List.getElem?_cons_zero, List.getElem?_cons_succ, List.set_cons_zero, List.set_cons_succ, true_and, and_true, beq_self_eq_true, zite, Int.toNat_natCast, if_pos, if_neg, zwr_id, zand, mF_rc b1, hO2, hW2, s6_lettersIn b1.1 b1.2 hf b2 (by omega) p1]
  refine hQ _ _ (mF_u b1 _) ?_ ?_ (fun k hk hk2 => ?_) (fr_u (fr_tr a4 b4) (by omega) (by omega))
  · exact rF_eq b2 (by omega) (fun k h1 h2 => zup_n (by omega))
  · rw [zup_s, b3 435 (by omega), a3 435 (by omega)]
  · rw [zup_n hk2, b3 k hk, a3 k hk]
theorem lp_bld1 {nn : Int} {l2 : Option zV} (hO : mF h pm fl p n w) (hn : w 0 = nn) (h24 : nn ≤ 24) : zwp sc 112 29 [some (.inr (.inl (some 24))), some (.inl 0), l2] [] h Q = zwp sc 112 39 [some (.inr (.inl (some 24))), some (.inl (lgf nn)), l2] [] h Q := by
  obtain ⟨hO1, hW⟩ := id hO
  have s0 : (Int32.ofInt 1 <<< (Int32.ofInt 0 &&& 31)).toInt = 1 := by decide
  have s1 : (Int32.ofInt 1 <<< (Int32.ofInt 1 &&& 31)).toInt = 2 := by decide
  have s2 : (Int32.ofInt 1 <<< (Int32.ofInt 2 &&& 31)).toInt = 4 := by decide
  have s3 : (Int32.ofInt 1 <<< (Int32.ofInt 3 &&& 31)).toInt = 8 := by decide
  have s4 : (Int32.ofInt 1 <<< (Int32.ofInt 4 &&& 31)).toInt = 16 := by decide
  have s5 : (Int32.ofInt 1 <<< (Int32.ofInt 5 &&& 31)).toInt = 32 := by decide
  unfold lgf
  by_cases c0 : nn ≤ 1
  · rw [w_112_29]
    simp (disch := omega) only [e_112, w_112_30, w_112_31, w_112_32, w_112_33, w_112_34, w_112_35, w_112_36, w_112_37, w_112_38, getK, putK, ialK, iasK, aalK, aasK, alnK, zgt_u, zgt_a, Option.toList_some, Option.toList_none, List.cons_append, List.nil_append, List.map_cons, List.map_nil, List.replicate, ite_true, ite_false, if_true, if_false, List.getElem?_cons_zero, List.getElem?_cons_succ, List.set_cons_zero, List.set_cons_succ, true_and, and_true, beq_self_eq_true, zite, Int.toNat_natCast, if_pos, if_neg, zwr_id, zand, Int.reduceAdd, s0, hO1, hW, hn]
  rw [if_neg c0, w_112_29]
  by_cases c1 : nn ≤ 2
  · simp (disch := omega) only [e_112, w_112_30, w_112_31, w_112_32, w_112_33, w_112_34, w_112_35, w_112_36, w_112_37, w_112_38, getK, putK, ialK, iasK, aalK, aasK, alnK, zgt_u, zgt_a, Option.toList_some, Option.toList_none, List.cons_append, List.nil_append, List.map_cons, List.map_nil, List.replicate, ite_true, ite_false, if_true, if_false, List.getElem?_cons_zero, List.getElem?_cons_succ, List.set_cons_zero, List.set_cons_succ, true_and, and_true, beq_self_eq_true, zite, Int.toNat_natCast, if_pos, if_neg, zwr_id, zand, Int.reduceAdd, s0, hO1, hW, hn]
    rw [w_112_29]
    simp (disch := omega) only [e_112, w_112_30, w_112_31, w_112_32, w_112_33, w_112_34, w_112_35, w_112_36, w_112_37, w_112_38, getK, putK, ialK, iasK, aalK, aasK, alnK, zgt_u, zgt_a, Option.toList_some, Option.toList_none, List.cons_append, List.nil_append, List.map_cons, List.map_nil, List.replicate, ite_true, ite_false, if_true, if_false, List.getElem?_cons_zero, List.getElem?_cons_succ, List.set_cons_zero, List.set_cons_succ, true_and, and_true, beq_self_eq_true, zite, Int.toNat_natCast, if_pos, if_neg, zwr_id, zand, Int.reduceAdd, s1, hO1, hW, hn]
  rw [if_neg c1]
  by_cases c2 : nn ≤ 4
  · simp (disch := omega) only [e_112, w_112_30, w_112_31, w_112_32, w_112_33, w_112_34, w_112_35, w_112_36, w_112_37, w_112_38, getK, putK, ialK, iasK, aalK, aasK, alnK, zgt_u, zgt_a, Option.toList_some, Option.toList_none, List.cons_append, List.nil_append, List.map_cons, List.map_nil, List.replicate, ite_true, ite_false, if_true, if_false, List.getElem?_cons_zero, List.getElem?_cons_succ, List.set_cons_zero, List.set_cons_succ, true_and, and_true, beq_self_eq_true, zite, Int.toNat_natCast, if_pos, if_neg, zwr_id, zand, Int.reduceAdd, s0, hO1, hW, hn]
    rw [w_112_29]
    simp (disch := omega) only [e_112, w_112_30, w_112_31, w_112_32, w_112_33, w_112_34, w_112_35, w_112_36, w_112_37, w_112_38, getK, putK, ialK, iasK, aalK, aasK, alnK, zgt_u, zgt_a, Option.toList_some, Option.toList_none, List.cons_append, List.nil_append, List.map_cons, List.map_nil, List.replicate, ite_true, ite_false, if_true, if_false, List.getElem?_cons_zero, List.getElem?_cons_succ, List.set_cons_zero, List.set_cons_succ, true_and, and_true, beq_self_eq_true, zite, Int.toNat_natCast, if_pos, if_neg, zwr_id, zand, Int.reduceAdd, s1, hO1, hW, hn]
    rw [w_112_29]
    simp (disch := omega) only [e_112, w_112_30, w_112_31, w_112_32, w_112_33, w_112_34, w_112_35, w_112_36, w_112_37, w_112_38, getK, putK, ialK, iasK, aalK, aasK, alnK, zgt_u, zgt_a, Option.toList_some, Option.toList_none, List.cons_append, List.nil_append, List.map_cons, List.map_nil, List.replicate, ite_true, ite_false, if_true, if_false, List.getElem?_cons_zero, List.getElem?_cons_succ, List.set_cons_zero, List.set_cons_succ, true_and, and_true, beq_self_eq_true, zite, Int.toNat_natCast, if_pos, if_neg, zwr_id, zand, Int.reduceAdd, s2, hO1, hW, hn]
  rw [if_neg c2]
  by_cases c3 : nn ≤ 8
  · simp (disch := omega) only [e_112, w_112_30, w_112_31, w_112_32, w_112_33, w_112_34, w_112_35, w_112_36, w_112_37, w_112_38, getK, putK, ialK, iasK, aalK, aasK, alnK, zgt_u, zgt_a, Option.toList_some, Option.toList_none, List.cons_append, List.nil_append, List.map_cons, List.map_nil, List.replicate, ite_true, ite_false, if_true, if_false, List.getElem?_cons_zero, List.getElem?_cons_succ, List.set_cons_zero, List.set_cons_succ, true_and, and_true, beq_self_eq_true, zite, Int.toNat_natCast, if_pos, if_neg, zwr_id, zand, Int.reduceAdd, s0, hO1, hW, hn]
    rw [w_112_29]
    simp (disch := omega) only [e_112, w_112_30, w_112_31, w_112_32, w_112_33, w_112_34, w_112_35, w_112_36, w_112_37, w_112_38, getK, putK, ialK, iasK, aalK, aasK, alnK, zgt_u, zgt_a, Option.toList_some, Option.toList_none, List.cons_append, List.nil_append, List.map_cons, List.map_nil, List.replicate, ite_true, ite_false, if_true, if_false, List.getElem?_cons_zero, List.getElem?_cons_succ, List.set_cons_zero, List.set_cons_succ, true_and, and_true, beq_self_eq_true, zite, Int.toNat_natCast, if_pos, if_neg, zwr_id, zand, Int.reduceAdd, s1, hO1, hW, hn]
    rw [w_112_29]
    simp (disch := omega) only [e_112, w_112_30, w_112_31, w_112_32, w_112_33, w_112_34, w_112_35, w_112_36, w_112_37, w_112_38, getK, putK, ialK, iasK, aalK, aasK, alnK, zgt_u, zgt_a, Option.toList_some, Option.toList_none, List.cons_append, List.nil_append, List.map_cons, List.map_nil, List.replicate, ite_true, ite_false, if_true, if_false, List.getElem?_cons_zero, List.getElem?_cons_succ, List.set_cons_zero, List.set_cons_succ, true_and, and_true, beq_self_eq_true, zite, Int.toNat_natCast, if_pos, if_neg, zwr_id, zand, Int.reduceAdd, s2, hO1, hW, hn]
    rw [w_112_29]
    simp (disch := omega) only [e_112, w_112_30, w_112_31, w_112_32, w_112_33, w_112_34, w_112_35, w_112_36, w_112_37, w_112_38, getK, putK, ialK, iasK, aalK, aasK, alnK, zgt_u, zgt_a, Option.toList_some, Option.toList_none, List.cons_append, List.nil_append, List.map_cons, List.map_nil, List.replicate, ite_true, ite_false, if_true, if_false, List.getElem?_cons_zero, List.getElem?_cons_succ, List.set_cons_zero, List.set_cons_succ, true_and, and_true, beq_self_eq_true, zite, Int.toNat_natCast, if_pos, if_neg, zwr_id, zand, Int.reduceAdd, s3, hO1, hW, hn]
  rw [if_neg c3]
  by_cases c4 : nn ≤ 16
  · simp (disch := omega) only [e_112, w_112_30, w_112_31, w_112_32, w_112_33, w_112_34, w_112_35, w_112_36, w_112_37, w_112_38, getK, putK, ialK, iasK, aalK, aasK, alnK, zgt_u, zgt_a, Option.toList_some, Option.toList_none, List.cons_append, List.nil_append, List.map_cons, List.map_nil, List.replicate, ite_true, ite_false, if_true, if_false, List.getElem?_cons_zero, List.getElem?_cons_succ, List.set_cons_zero, List.set_cons_succ, true_and, and_true, beq_self_eq_true, zite, Int.toNat_natCast, if_pos, if_neg, zwr_id, zand, Int.reduceAdd, s0, hO1, hW, hn]
    rw [w_112_29]
    simp (disch := omega) only [e_112, w_112_30, w_112_31, w_112_32, w_112_33, w_112_34, w_112_35, w_112_36, w_112_37, w_112_38, getK, putK, ialK, iasK, aalK, aasK, alnK, zgt_u, zgt_a, Option.toList_some, Option.toList_none, List.cons_append, List.nil_append, List.map_cons, List.map_nil, List.replicate, ite_true, ite_false, if_true, if_false, List.getElem?_cons_zero, List.getElem?_cons_succ, List.set_cons_zero, List.set_cons_succ, true_and, and_true, beq_self_eq_true, zite, Int.toNat_natCast, if_pos, if_neg, zwr_id, zand, Int.reduceAdd, s1, hO1, hW, hn]
    rw [w_112_29]
    simp (disch := omega) only [e_112, w_112_30, w_112_31, w_112_32, w_112_33, w_112_34, w_112_35, w_112_36, w_112_37, w_112_38, getK, putK, ialK, iasK, aalK, aasK, alnK, zgt_u, zgt_a, Option.toList_some, Option.toList_none, List.cons_append, List.nil_append, List.map_cons, List.map_nil, List.replicate, ite_true, ite_false, if_true, if_false, List.getElem?_cons_zero, List.getElem?_cons_succ, List.set_cons_zero, List.set_cons_succ, true_and, and_true, beq_self_eq_true, zite, Int.toNat_natCast, if_pos, if_neg, zwr_id, zand, Int.reduceAdd, s2, hO1, hW, hn]
    rw [w_112_29]
    simp (disch := omega) only [e_112, w_112_30, w_112_31, w_112_32, w_112_33, w_112_34, w_112_35, w_112_36, w_112_37, w_112_38, getK, putK, ialK, iasK, aalK, aasK, alnK, zgt_u, zgt_a, Option.toList_some, Option.toList_none, List.cons_append, List.nil_append, List.map_cons, List.map_nil, List.replicate, ite_true, ite_false, if_true, if_false, List.getElem?_cons_zero, List.getElem?_cons_succ, List.set_cons_zero, List.set_cons_succ, true_and, and_true, beq_self_eq_true, zite, Int.toNat_natCast, if_pos, if_neg, zwr_id, zand, Int.reduceAdd, s3, hO1, hW, hn]
    rw [w_112_29]
    simp (disch := omega) only [e_112, w_112_30, w_112_31, w_112_32, w_112_33, w_112_34, w_112_35, w_112_36, w_112_37, w_112_38, getK, putK, ialK, iasK, aalK, aasK, alnK, zgt_u, zgt_a, Option.toList_some, Option.toList_none, List.cons_append, List.nil_append, List.map_cons, List.map_nil, List.replicate, ite_true, ite_false, if_true, if_false, List.getElem?_cons_zero, List.getElem?_cons_succ, List.set_cons_zero, List.set_cons_succ, true_and, and_true, beq_self_eq_true, zite, Int.toNat_natCast, if_pos, if_neg, zwr_id, zand, Int.reduceAdd, s4, hO1, hW, hn]
  rw [if_neg c4, if_pos (by omega)]
  simp (disch := omega) only [e_112, w_112_30, w_112_31, w_112_32, w_112_33, w_112_34, w_112_35, w_112_36, w_112_37, w_112_38, getK, putK, ialK, iasK, aalK, aasK, alnK, zgt_u, zgt_a, Option.toList_some, Option.toList_none, List.cons_append, List.nil_append, List.map_cons, List.map_nil, List.replicate, ite_true, ite_false, if_true, if_false, List.getElem?_cons_zero, List.getElem?_cons_succ, List.set_cons_zero, List.set_cons_succ, true_and, and_true, beq_self_eq_true, zite, Int.toNat_natCast, if_pos, if_neg, zwr_id, zand, Int.reduceAdd, s0, hO1, hW, hn]
  rw [w_112_29]
  simp (disch := omega) only [e_112, w_112_30, w_112_31, w_112_32, w_112_33, w_112_34, w_112_35, w_112_36, w_112_37, w_112_38, getK, putK, ialK, iasK, aalK, aasK, alnK, zgt_u, zgt_a, Option.toList_some, Option.toList_none, List.cons_append, List.nil_append, List.map_cons, List.map_nil, List.replicate, ite_true, ite_false, if_true, if_false, List.getElem?_cons_zero, List.getElem?_cons_succ, List.set_cons_zero, List.set_cons_succ, true_and, and_true, beq_self_eq_true, zite, Int.toNat_natCast, if_pos, if_neg, zwr_id, zand, Int.reduceAdd, s1, hO1, hW, hn]
  rw [w_112_29]
  simp (disch := omega) only [e_112, w_112_30, w_112_31, w_112_32, w_112_33, w_112_34, w_112_35, w_112_36, w_112_37, w_112_38, getK, putK, ialK, iasK, aalK, aasK, alnK, zgt_u, zgt_a, Option.toList_some, Option.toList_none, List.cons_append, List.nil_append, List.map_cons, List.map_nil, List.replicate, ite_true, ite_false, if_true, if_false, List.getElem?_cons_zero, List.getElem?_cons_succ, List.set_cons_zero, List.set_cons_succ, true_and, and_true, beq_self_eq_true, zite, Int.toNat_natCast, if_pos, if_neg, zwr_id, zand, Int.reduceAdd, s2, hO1, hW, hn]
  rw [w_112_29]
  simp (disch := omega) only [e_112, w_112_30, w_112_31, w_112_32, w_112_33, w_112_34, w_112_35, w_112_36, w_112_37, w_112_38, getK, putK, ialK, iasK, aalK, aasK, alnK, zgt_u, zgt_a, Option.toList_some, Option.toList_none, List.cons_append, List.nil_append, List.map_cons, List.map_nil, List.replicate, ite_true, ite_false, if_true, if_false, List.getElem?_cons_zero, List.getElem?_cons_succ, List.set_cons_zero, List.set_cons_succ, true_and, and_true, beq_self_eq_true, zite, Int.toNat_natCast, if_pos, if_neg, zwr_id, zand, Int.reduceAdd, s3, hO1, hW, hn]
  rw [w_112_29]
  simp (disch := omega) only [e_112, w_112_30, w_112_31, w_112_32, w_112_33, w_112_34, w_112_35, w_112_36, w_112_37, w_112_38, getK, putK, ialK, iasK, aalK, aasK, alnK, zgt_u, zgt_a, Option.toList_some, Option.toList_none, List.cons_append, List.nil_append, List.map_cons, List.map_nil, List.replicate, ite_true, ite_false, if_true, if_false, List.getElem?_cons_zero, List.getElem?_cons_succ, List.set_cons_zero, List.set_cons_succ, true_and, and_true, beq_self_eq_true, zite, Int.toNat_natCast, if_pos, if_neg, zwr_id, zand, Int.reduceAdd, s4, hO1, hW, hn]
  rw [w_112_29]
  simp (disch := omega) only [e_112, w_112_30, w_112_31, w_112_32, w_112_33, w_112_34, w_112_35, w_112_36, w_112_37, w_112_38, getK, putK, ialK, iasK, aalK, aasK, alnK, zgt_u, zgt_a, Option.toList_some, Option.toList_none, List.cons_append, List.nil_append, List.map_cons, List.map_nil, List.replicate, ite_true, ite_false, if_true, if_false, List.getElem?_cons_zero, List.getElem?_cons_succ, List.set_cons_zero, List.set_cons_succ, true_and, and_true, beq_self_eq_true, zite, Int.toNat_natCast, if_pos, if_neg, zwr_id, zand, Int.reduceAdd, s5, hO1, hW, hn]
theorem lp_bld2 {L : List zI} {g : Int} (hl : L.length ≤ 24) (hL : rL w L) (hg : 0 ≤ g ∧ g ≤ 6) : ∀ (B A : List zI) (h : zH) (w' : Int → Int), L = A ++ B → mF h pm fl p n w' → rF w' 49 (A.map (fun x => (g, x.2))) → (∀ k, k < 49 ∨ 242 ≤ k → w' k = w k) → (∀ h' w'' l2, mF h' pm fl p n w'' → rF w'' 49 (L.map (fun x => (g, x.2))) → (∀ k, k < 49 ∨ 242 ≤ k → w'' k = w k) → fr h h' 25 1 → zwp sc 112 65 [some (.inr (.inl (some 24))), some (.inl g), l2] [] h' Q) → zwp sc 112 41 [some (.inr (.inl (some 24))), some (.inl g), some (.inl (A.length : Int))] [] h Q := by
  intro B
  induction B with
  | nil =>
    intro A h w' e hO hF ho hQ
    rw [List.append_nil] at e
    subst e
    have hw := hL.1
    rw [← ho 0 (by omega)] at hw
    obtain ⟨hO1, hW⟩ := id hO
    have := hQ h w' (some (.inl (L.length : Int))) hO hF ho fr_rf
    rw [w_112_41]
    simp (disch := omega) only [e_112, w_112_42, w_112_43, w_112_44, w_112_45, w_112_46, w_112_47, w_112_48, w_112_49, w_112_50, w_112_51, w_112_52, w_112_53, w_112_54, w_112_55, w_112_56, w_112_57, w_112_58, w_112_59, w_112_60, w_112_61, w_112_62, w_112_63, w_112_64, getK, putK, ialK, iasK, aalK, aasK, alnK, zgt_u, zgt_a, Option.toList_some, Option.toList_none, List.cons_append, List.nil_append, List.map_cons, List.map_nil, List.replicate, ite_true, ite_false, if_true, if_false, List.getElem?_cons_zero, List.getElem?_cons_succ, List.set_cons_zero, List.set_cons_succ, true_and, and_true, beq_self_eq_true, zite, Int.toNat_natCast, if_pos, if_neg, zwr_id, zand, hO1, hW, hw]
    exact this
  | cons x B ih =>
    intro A h w' e hO hF ho hQ
    have hw := hL.1
    rw [← ho 0 (by omega)] at hw
    obtain ⟨hO1, hW⟩ := id hO
    have hlen : L.length = A.length + (B.length + 1) := by rw [e]; simp
    obtain ⟨hx, hy⟩ := hL.2 A.length (by omega) (by omega)
    rw [e, gI_app, ← ho _ (by omega)] at hx hy
    have ih := fun h w' => ih (A ++ [x]) h w' (by rw [e]; simp)
    rw [List.length_append, List.length_singleton, show ((A.length + 1 : Nat) : Int) = (A.length : Int) + 1 by omega, List.map_append, List.map_cons, List.map_nil] at ih
    rw [w_112_41]
    simp (disch := omega) only [e_112, w_112_42, w_112_43, w_112_44, w_112_45, w_112_46, w_112_47, w_112_48, w_112_49, w_112_50, w_112_51, w_112_52, w_112_53, w_112_54, w_112_55, w_112_56, w_112_57, w_112_58, w_112_59, w_112_60, w_112_61, w_112_62, w_112_63, w_112_64, getK, putK, ialK, iasK, aalK, aasK, alnK, zgt_u, zgt_a, Option.toList_some, Option.toList_none, List.cons_append, List.nil_append, List.map_cons, List.map_nil, List.replicate, ite_true, ite_false, if_true, if_false, List.getElem?_cons_zero, List.getElem?_cons_succ, List.set_cons_zero, List.set_cons_succ, true_and, and_true, beq_self_eq_true, zite, Int.toNat_natCast, if_pos, if_neg, zwr_id, zand, hO1, hW, hw, hx, hy, mF_rc hO]
    refine s6_addItem (f := 0) hO (by omega) hF (by rw [List.length_map]; omega) (fun h1 w1 a1 a2 a3 a4 => ?_)
    simp (disch := omega) only [e_112, w_112_42, w_112_43, w_112_44, w_112_45, w_112_46, w_112_47, w_112_48, w_112_49, w_112_50, w_112_51, w_112_52, w_112_53, w_112_54, w_112_55, w_112_56, w_112_57, w_112_58, w_112_59, w_112_60, w_112_61, w_112_62, w_112_63, w_112_64, getK, putK, ialK, iasK, aalK, aasK, alnK, zgt_u, zgt_a, Option.toList_some, Option.toList_none, List.cons_append, List.nil_append, List.map_cons, List.map_nil, List.replicate, ite_true, ite_false, if_true, if_false, List.getElem?_cons_zero, List.getElem?_cons_succ, List.set_cons_zero, List.set_cons_succ, true_and, and_true, beq_self_eq_true, zite, Int.toNat_natCast, if_pos, if_neg, zwr_id, zand]
    exact ih h1 w1 a1 a2 (fun k hk => (a3 k (by omega)).trans (ho k hk)) (fun h' w'' l2 b1 b2 b3 b4 => hQ h' w'' l2 b1 b2 b3 (fr_tr a4 b4))
theorem s6_build {L : List zI} (hO : mF h pm fl p n w) (hL : rL w L) (hl : L.length ≤ 24) (ho : okIs L) (hc : inR (w 435)) (hQ : ∀ h' w', mF h' pm fl p n w' → rL w' L → rF w' 49 (L.map (fun x => (lgf L.length, x.2))) → rF w' 242 [] → w' 435 = zwr (w 435 + lti (lgf L.length) (L.map (fun x => (lgf L.length, x.2)))) → w' 436 = zwr (w 436 + 1) → fr h h' 25 1 → Q (some (.inl (if L.length = 0 then -9999 else lgf L.length))) h') : zca sc 112 [.inr (.inl (some 24))] h Q := by
  obtain ⟨hO1, hW⟩ := id hO
  have hg := lgf_b (n := L.length)
  have f0 : ∀ Q : Option zV → zH → Prop, zca sc 103 [.inl 0] h Q = Q (some (.inl 49)) h := fun Q => by rw [s6_family (by omega)]; rfl
  have f1 : ∀ (h : zH) (Q : Option zV → zH → Prop), zca sc 103 [.inl 1] h Q = Q (some (.inl 242)) h := fun h Q => by rw [s6_family (by omega)]; rfl
  have hw := hL.1
  simp (disch := omega) only [e_112, w_112_0, w_112_1, w_112_2, w_112_3, w_112_4, w_112_5, w_112_6, w_112_7, w_112_8, w_112_9, w_112_10, w_112_11, w_112_12, w_112_13, w_112_14, w_112_15, w_112_16, w_112_17, w_112_18, w_112_19, w_112_20, w_112_21, w_112_22, w_112_23, getK, putK, ialK, iasK, aalK, aasK, alnK, zgt_u, zgt_a, Option.toList_some, Option.toList_none, List.cons_append, List.nil_append, List.map_cons, List.map_nil, List.replicate, ite_true, ite_false, if_true, if_false, List.getElem?_cons_zero, List.getElem?_cons_succ, List.set_cons_zero, List.set_cons_succ, true_and, and_true, beq_self_eq_true, zite, Int.toNat_natCast, if_pos, if_neg, zwr_id, zand, hO1, hW, f0, f1, Nat.reduceEqDiff, zup_n]
  generalize hw1 : zup (zup (zup w 49 0) 242 0) 436 _ = w1
  have hO1 : mF (zuH (zuH (zuH h 25 (.inr (.inl (437, zup w 49 0)))) 25 (.inr (.inl (437, zup (zup w 49 0) 242 0)))) 25 (.inr (.inl (437, w1)))) pm fl p n w1 := mF_u (mF_u (mF_u hO _) _) _
  generalize hh1 : zuH (zuH (zuH h 25 (.inr (.inl (437, zup w 49 0)))) 25 (.inr (.inl (437, zup (zup w 49 0) 242 0)))) 25 (.inr (.inl (437, w1))) = h1 at hO1 ⊢
  have hf1 : fr h h1 25 1 := by rw [← hh1]; exact fr_u (fr_u (fr_u fr_rf (by omega) (by omega)) (by omega) (by omega)) (by omega) (by omega)
  have e49 : rF w1 49 [] := ⟨by rw [← hw1]; simp (disch := omega) only [zup_n, zup_s]; rfl, fun k h0 h1 => by simp at h1; omega⟩
  have e242 : rF w1 242 [] := ⟨by rw [← hw1]; simp (disch := omega) only [zup_n, zup_s]; rfl, fun k h0 h1 => by simp at h1; omega⟩
  have e436 : w1 436 = zwr (w 436 + 1) := by rw [← hw1, zup_s]
  have e435 : w1 435 = w 435 := by rw [← hw1]; simp (disch := omega) only [zup_n]
  have eL : rL w1 L := rL_eq hL hl (fun k a b => by rw [← hw1]; simp (disch := omega) only [zup_n])
  have e0 := eL.1
  have hO11 := hO1.1
  have hO12 := hO1.2
  by_cases c : L.length = 0
  · have hnil : L = [] := List.length_eq_zero_iff.mp c
    have := hQ h1 w1 hO1 eL (by rw [hnil]; exact e49) e242 (by
      rw [hnil, e435]
      show _ = zwr (w 435 + 0)
      rw [Int.add_zero, zwr_in hc]) e436 hf1
    rw [if_pos c] at this
    have e0 : w1 0 = 0 := by rw [e0, c]; rfl
    simp (disch := omega) only [e_112, w_112_20, w_112_21, w_112_22, w_112_23, w_112_24, w_112_25, w_112_26, w_112_27, w_112_28, getK, putK, ialK, iasK, aalK, aasK, alnK, zgt_u, zgt_a, Option.toList_some, Option.toList_none, List.cons_append, List.nil_append, List.map_cons, List.map_nil, List.replicate, ite_true, ite_false, if_true, if_false, List.getElem?_cons_zero, List.getElem?_cons_succ, List.set_cons_zero, List.set_cons_succ, true_and, and_true, beq_self_eq_true, zite, Int.toNat_natCast, if_pos, if_neg, zwr_id, zand, hO11, hO12, e0]
    exact this
  · have e1 : (L.length : Int) ≠ 0 := by omega
    simp (disch := omega) only [e_112, w_112_20, w_112_21, w_112_22, w_112_23, w_112_24, w_112_25, w_112_26, w_112_27, w_112_28, getK, putK, ialK, iasK, aalK, aasK, alnK, zgt_u, zgt_a, Option.toList_some, Option.toList_none, List.cons_append, List.nil_append, List.map_cons, List.map_nil, List.replicate, ite_true, ite_false, if_true, if_false, List.getElem?_cons_zero, List.getElem?_cons_succ, List.set_cons_zero, List.set_cons_succ, true_and, and_true, beq_self_eq_true, zite, Int.toNat_natCast, if_pos, if_neg, zwr_id, zand, hO11, hO12, e0]
    rw [lp_bld1 hO1 e0 (by omega)]
    simp (disch := omega) only [e_112, w_112_39, w_112_40, getK, putK, ialK, iasK, aalK, aasK, alnK, zgt_u, zgt_a, Option.toList_some, Option.toList_none, List.cons_append, List.nil_append, List.map_cons, List.map_nil, List.replicate, ite_true, ite_false, if_true, if_false, List.getElem?_cons_zero, List.getElem?_cons_succ, List.set_cons_zero, List.set_cons_succ, true_and, and_true, beq_self_eq_true, zite, Int.toNat_natCast, if_pos, if_neg, zwr_id, zand]
    refine lp_bld2 (L := L) (w := w1) hl eL hg L [] h1 w1 rfl hO1 e49 (fun _ _ => rfl) (fun h2 w2 l2 a1 a2 a3 a4 => ?_)
    obtain ⟨hO21, hO22⟩ := id a1
    have a2' : rF w2 (49 + 193 * 0) (L.map (fun x => (lgf L.length, x.2))) := a2
    have hli : ∀ Q : Option zV → zH → Prop, zca sc 109 [.inr (.inl (some 24)), .inl 0, .inl (lgf L.length)] h2 Q = Q (some (.inl (lti (lgf L.length) (L.map (fun x => (lgf L.length, x.2)))))) h2 := fun Q => s6_lettersIn a1.1 a1.2 (by omega) a2' (by rw [List.length_map]; omega) (okIs_map hg ho)
    simp (disch := omega) only [e_112, w_112_65, w_112_66, w_112_67, w_112_68, w_112_69, w_112_70, w_112_71, w_112_72, w_112_73, w_112_74, w_112_75, w_112_76, w_112_77, getK, putK, ialK, iasK, aalK, aasK, alnK, zgt_u, zgt_a, Option.toList_some, Option.toList_none, List.cons_append, List.nil_append, List.map_cons, List.map_nil, List.replicate, ite_true, ite_false, if_true, if_false, List.getElem?_cons_zero, List.getElem?_cons_succ, List.set_cons_zero, List.set_cons_succ, true_and, and_true, beq_self_eq_true, zite, Int.toNat_natCast, if_pos, if_neg, zwr_id, zand, hO21, hO22, mF_rc a1, hli]
    have := hQ _ _ (mF_u a1 (zup w2 435 (zwr (w2 435 + lti (lgf L.length) (L.map (fun x => (lgf L.length, x.2))))))) (rL_eq eL hl (fun k h0 h1 => by rw [zup_n (by omega), a3 k (by omega)])) (rF_eq a2 (by rw [List.length_map]; omega) (fun k h0 h1 => zup_n (by omega))) (rF_eq e242 (by simp) (fun k h0 h1 => by rw [zup_n (by omega), a3 k (by omega)])) (by rw [zup_s, a3 435 (by omega), e435]) (by rw [zup_n (by omega), a3 436 (by omega), e436]) (fr_u (fr_tr hf1 a4) (by omega) (by omega))
    rw [if_neg c] at this
    exact this
end
