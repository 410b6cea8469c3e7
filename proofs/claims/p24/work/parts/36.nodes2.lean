/-! NODES READ -/
theorem dt_0 (w : Int) : w / tp 0 = w := Int.ediv_one w
theorem dt_s {w : Int} (m : Nat) : w / tp m / 10 = w / tp (m + 1) := by
  show _ = w / (10 * tp m)
  have := tp_pos m
  rw [Int.ediv_ediv_of_nonneg (by omega), Int.mul_comm]
theorem vc_dt {w : Int} (hw : vc w) : ∀ m, vc (w / tp m)
  | 0 => by rw [dt_0]; exact hw
  | m + 1 => by rw [← dt_s]; exact vc_div (vc_dt hw m)
theorem dt_nd {w : Int} (hw : 0 ≤ w) (m : Nat) (h : nd w ≤ m) : w / tp m = 0 := by
  have := (tp_le (c := w) m).mp
  exact Int.ediv_eq_zero_of_lt hw (by rcases Int.lt_or_le w (tp m) with q | q; exact q; have := this q; omega)
/-- beginnings -/
def bgn (w c : Int) : Prop := ∃ m : Nat, c = w / tp m
theorem bgn_0 {w : Int} (hw : 0 ≤ w) : bgn w 0 := ⟨(nd w).toNat, by rw [dt_nd hw]; have := nd_nn w; omega⟩
theorem bgn_d {w c : Int} (h : bgn w c) : bgn w (c / 10) := by
  obtain ⟨m, rfl⟩ := h
  exact ⟨m + 1, dt_s m⟩
theorem bgn_s {w : Int} : bgn w w := ⟨0, (dt_0 w).symm⟩
theorem bgn_i {w c : Int} (h : bgn (w / 10) c) : bgn w c := by
  obtain ⟨m, rfl⟩ := h
  refine ⟨m + 1, ?_⟩
  have := tp_pos m
  show _ = w / (10 * tp m)
  rw [Int.ediv_ediv_of_nonneg (by omega)]
theorem bgn_c {w c : Int} (h : bgn w c) : c = w ∨ bgn (w / 10) c := by
  obtain ⟨m, rfl⟩ := h
  cases m with
  | zero => exact Or.inl (dt_0 w)
  | succ m =>
    right
    have := tp_pos m
    refine ⟨m, ?_⟩
    show w / (10 * tp m) = _
    rw [Int.ediv_ediv_of_nonneg (by omega)]
/-- node lists closed under shortening -/
def clN (N : List Int) : Prop := (0 : Int) ∈ N ∧ ∀ c ∈ N, c / 10 ∈ N
theorem clN_b {N : List Int} (h : clN N) {w : Int} (hw : w ∈ N) {c : Int} (hc : bgn w c) : c ∈ N := by
  obtain ⟨m, rfl⟩ := hc
  induction m with
  | zero => rw [dt_0]; exact hw
  | succ m ih => rw [← dt_s]; exact h.2 _ ih
section
variable {sc : Nat × (Int → Int)} {h : zH} {Q : Option zV → zH → Prop} {b : Nat} {rd : Int} {N : List Int}
theorem lp_addBeg (v0 : Option zV) : ∀ (k : Nat) (h : zH) (N : List Int) (w : Int), nd w ≤ k → vc w → rNs h b rd N → ((0 : Int) ∈ N ∧ ∀ c ∈ N, c / 10 ∈ N ∨ c / 10 = w) → N.length + k ≤ 289 → (∀ h' N', rNs h' b rd N' → (∀ c, c ∈ N' ↔ c ∈ N ∨ bgn w c) → N'.length ≤ N.length + k → fr h h' b 3 → Q none h') → zwp sc 39 2 [some (.inr (.inl (some b))), v0, some (.inl w)] [] h Q := by
  intro k
  induction k with
  | zero =>
    intro h N w hk hv hN hC hl hQ
    have hw0 : ¬ 0 < w := fun q => by have := nd_pos q; omega
    have e : w = 0 := by have := hv.1; omega
    subst e
    have hC : clN N := ⟨hC.1, fun c hc => by rcases hC.2 c hc with q | q; exact q; rw [q]; exact hC.1⟩
    rw [w_39_2]
    simp (disch := omega) only [e_39, w_39_0, w_39_1, w_39_3, w_39_4, w_39_5, w_39_6, w_39_7, w_39_8, w_39_9, w_39_10, w_39_11, w_39_12, w_39_13, w_39_14, w_39_15, w_39_16, getK, putK, ialK, iasK, aalK, aasK, alnK, zgt_u, zgt_a, Option.toList_some, Option.toList_none, List.cons_append, List.nil_append, List.map_cons, List.map_nil, List.replicate, ite_true, ite_false, if_true, if_false, List.getElem?_cons_zero, List.getElem?_cons_succ, List.set_cons_zero, List.set_cons_succ, true_and, and_true, beq_self_eq_true, zite, Int.toNat_natCast, if_pos, if_neg, zwr_id, zand, rNs_rc hN]
    refine hQ h N hN (fun c => ⟨Or.inl, ?_⟩) (by omega) fr_rf
    rintro (q | q)
    · exact q
    · exact clN_b hC hC.1 q
  | succ k ih =>
    intro h N w hk hv hN hC hl hQ
    by_cases hp : 0 < w
    · rw [w_39_2]
      by_cases hm : w ∈ N
      · have hC : clN N := ⟨hC.1, fun c hc => by rcases hC.2 c hc with q | q; exact q; rw [q]; exact hm⟩
        simp (disch := omega) only [e_39, w_39_0, w_39_1, w_39_3, w_39_4, w_39_5, w_39_6, w_39_7, w_39_8, w_39_9, w_39_10, w_39_11, w_39_12, w_39_13, w_39_14, w_39_15, w_39_16, getK, putK, ialK, iasK, aalK, aasK, alnK, zgt_u, zgt_a, Option.toList_some, Option.toList_none, List.cons_append, List.nil_append, List.map_cons, List.map_nil, List.replicate, ite_true, ite_false, if_true, if_false, List.getElem?_cons_zero, List.getElem?_cons_succ, List.set_cons_zero, List.set_cons_succ, true_and, and_true, beq_self_eq_true, zite, Int.toNat_natCast, if_pos, if_neg, zwr_id, zand, rNs_rc hN, s_has hN hv, zb_eq, zb_ne, hm, not_true]
        refine hQ h N hN (fun c => ⟨Or.inl, ?_⟩) (by omega) fr_rf
        rintro (q | q)
        · exact q
        · exact clN_b hC hm q
      · simp (disch := omega) only [e_39, w_39_0, w_39_1, w_39_3, w_39_4, w_39_5, w_39_6, w_39_7, w_39_8, w_39_9, w_39_10, w_39_11, w_39_12, w_39_13, w_39_14, w_39_15, w_39_16, getK, putK, ialK, iasK, aalK, aasK, alnK, zgt_u, zgt_a, Option.toList_some, Option.toList_none, List.cons_append, List.nil_append, List.map_cons, List.map_nil, List.replicate, ite_true, ite_false, if_true, if_false, List.getElem?_cons_zero, List.getElem?_cons_succ, List.set_cons_zero, List.set_cons_succ, true_and, and_true, beq_self_eq_true, zite, Int.toNat_natCast, if_pos, if_neg, zwr_id, zand, rNs_rc hN, s_has hN hv, zb_eq, zb_ne, hm, not_false_eq_true]
        refine s_nadd hN hv hm (by omega) (fun h1 hN1 hf1 => ?_)
        simp (disch := omega) only [e_39, w_39_0, w_39_1, w_39_3, w_39_4, w_39_5, w_39_6, w_39_7, w_39_8, w_39_9, w_39_10, w_39_11, w_39_12, w_39_13, w_39_14, w_39_15, w_39_16, getK, putK, ialK, iasK, aalK, aasK, alnK, zgt_u, zgt_a, Option.toList_some, Option.toList_none, List.cons_append, List.nil_append, List.map_cons, List.map_nil, List.replicate, ite_true, ite_false, if_true, if_false, List.getElem?_cons_zero, List.getElem?_cons_succ, List.set_cons_zero, List.set_cons_succ, true_and, and_true, beq_self_eq_true, zite, Int.toNat_natCast, if_pos, if_neg, zwr_id, zand]
        rw [nd_p hp] at hk
        refine ih h1 (N ++ [w]) (w / 10) (by omega) (vc_div hv) hN1 ⟨List.mem_append_left _ hC.1, fun c hc => ?_⟩ (by rw [List.length_append, List.length_singleton]; omega) (fun h' N' a1 a2 a3 a4 => hQ h' N' a1 (fun c => ?_) (by rw [List.length_append, List.length_singleton] at a3; omega) (fr_tr hf1 a4))
        · rcases List.mem_append.mp hc with q | q
          · rcases hC.2 c q with q | q
            · exact Or.inl (List.mem_append_left _ q)
            · exact Or.inl (List.mem_append_right _ (by simp [q]))
          · rw [List.mem_singleton.mp q]; exact Or.inr rfl
        · rw [a2 c, List.mem_append, List.mem_singleton]
          constructor
          · rintro ((q | q) | q)
            · exact Or.inl q
            · exact Or.inr (q ▸ bgn_s)
            · exact Or.inr (bgn_i q)
          · rintro (q | q)
            · exact Or.inl (Or.inl q)
            · rcases bgn_c q with q | q
              · exact Or.inl (Or.inr q)
              · exact Or.inr q
    · have e : w = 0 := by have := hv.1; omega
      subst e
      have hC : clN N := ⟨hC.1, fun c hc => by rcases hC.2 c hc with q | q; exact q; rw [q]; exact hC.1⟩
      rw [w_39_2]
      simp (disch := omega) only [e_39, w_39_0, w_39_1, w_39_3, w_39_4, w_39_5, w_39_6, w_39_7, w_39_8, w_39_9, w_39_10, w_39_11, w_39_12, w_39_13, w_39_14, w_39_15, w_39_16, getK, putK, ialK, iasK, aalK, aasK, alnK, zgt_u, zgt_a, Option.toList_some, Option.toList_none, List.cons_append, List.nil_append, List.map_cons, List.map_nil, List.replicate, ite_true, ite_false, if_true, if_false, List.getElem?_cons_zero, List.getElem?_cons_succ, List.set_cons_zero, List.set_cons_succ, true_and, and_true, beq_self_eq_true, zite, Int.toNat_natCast, if_pos, if_neg, zwr_id, zand, rNs_rc hN]
      refine hQ h N hN (fun c => ⟨Or.inl, ?_⟩) (by omega) fr_rf
      rintro (q | q)
      · exact q
      · exact clN_b hC hC.1 q
theorem s_addBeg {w : Int} (hw : wd w) (hN : rNs h b rd N) (hC : clN N) (hl : N.length ≤ 283) (hQ : ∀ h' N', rNs h' b rd N' → (∀ c, c ∈ N' ↔ c ∈ N ∨ bgn w c) → N'.length ≤ N.length + 6 → fr h h' b 3 → Q none h') : zca sc 39 [.inr (.inl (some b)), .inl w] h Q := by
  have := wd_nd hw
  simp (disch := omega) only [e_39, w_39_0, w_39_1, w_39_3, w_39_4, w_39_5, w_39_6, w_39_7, w_39_8, w_39_9, w_39_10, w_39_11, w_39_12, w_39_13, w_39_14, w_39_15, w_39_16, getK, putK, ialK, iasK, aalK, aasK, alnK, zgt_u, zgt_a, Option.toList_some, Option.toList_none, List.cons_append, List.nil_append, List.map_cons, List.map_nil, List.replicate, ite_true, ite_false, if_true, if_false, List.getElem?_cons_zero, List.getElem?_cons_succ, List.set_cons_zero, List.set_cons_succ, true_and, and_true, beq_self_eq_true, zite, Int.toNat_natCast, if_pos, if_neg, zwr_id, zand]
  exact lp_addBeg _ 6 h N w (by omega) (vc_wd hw) hN ⟨hC.1, fun c hc => Or.inl (hC.2 c hc)⟩ (by omega) hQ
theorem clN_u {N N' : List Int} {w : Int} (h : clN N) (hm : ∀ c, c ∈ N' ↔ c ∈ N ∨ bgn w c) : clN N' := ⟨(hm 0).mpr (Or.inl h.1), fun c hc => (hm _).mpr (by rcases (hm c).mp hc with q | q; exact Or.inl (h.2 c q); exact Or.inr (bgn_d q))⟩
/-- the nodes of the items from a place on -/
def ndR (L : List zI) (c : Int) : Prop := ∃ x ∈ L, bgn x.2.1 c
theorem lp_read {bI : Nat} {g : Int} (l3 : Option zV) : ∀ (M A B : List zI) (h : zH) (N : List Int) (L : List zI), L = A ++ (M ++ B) → rIt h bI L → L.length ≤ 48 → okIs L → rNs h b rd N → (M ≠ [] → clN N) → N.length ≤ 1 + 6 * A.length → (bI + 4 ≤ b ∨ b + 3 ≤ bI) → (∀ h' N', rNs h' b rd N' → (∀ c, c ∈ N' ↔ c ∈ N ∨ ndR M c) → fr h h' b 3 → Q none h') → zwp sc 35 27 [some (.inr (.inl (some b))), some (.inr (.inl (some bI))), some (.inl g), l3, some (.inl ((A.length + M.length : Nat) : Int)), some (.inl (A.length : Int))] [] h Q := by
  intro M
  induction M with
  | nil =>
    intro A B h N L he hI hL ho hN hC hl hd hQ
    rw [w_35_27]
    simp (disch := omega) only [e_35, w_35_0, w_35_1, w_35_2, w_35_3, w_35_4, w_35_5, w_35_6, w_35_7, w_35_8, w_35_9, w_35_10, w_35_11, w_35_12, w_35_13, w_35_14, w_35_15, w_35_16, w_35_17, w_35_18, w_35_19, w_35_20, w_35_21, w_35_22, w_35_23, w_35_24, w_35_25, w_35_26, w_35_28, w_35_29, w_35_30, w_35_31, w_35_32, w_35_33, w_35_34, w_35_35, w_35_36, w_35_37, getK, putK, ialK, iasK, aalK, aasK, alnK, zgt_u, zgt_a, Option.toList_some, Option.toList_none, List.cons_append, List.nil_append, List.map_cons, List.map_nil, List.replicate, ite_true, ite_false, if_true, if_false, List.getElem?_cons_zero, List.getElem?_cons_succ, List.set_cons_zero, List.set_cons_succ, true_and, and_true, beq_self_eq_true, zite, Int.toNat_natCast, if_pos, if_neg, zwr_id, zand, List.length_nil]
    exact hQ h N hN (fun c => by simp [ndR]) fr_rf
  | cons x M ih =>
    intro A B h N L he hI hL ho hN hC hl hd hQ
    have hx : (gI L A.length) = x := by
      unfold gI
      rw [if_pos (by omega), he]
      simp
    have hlen : L.length = A.length + (M.length + 1 + B.length) := by rw [he]; simp; omega
    have hxo := ho x (by rw [he]; simp)
    simp only [List.length_cons] at *
    rw [w_35_27]
    simp (disch := omega) only [e_35, w_35_0, w_35_1, w_35_2, w_35_3, w_35_4, w_35_5, w_35_6, w_35_7, w_35_8, w_35_9, w_35_10, w_35_11, w_35_12, w_35_13, w_35_14, w_35_15, w_35_16, w_35_17, w_35_18, w_35_19, w_35_20, w_35_21, w_35_22, w_35_23, w_35_24, w_35_25, w_35_26, w_35_28, w_35_29, w_35_30, w_35_31, w_35_32, w_35_33, w_35_34, w_35_35, w_35_36, w_35_37, getK, putK, ialK, iasK, aalK, aasK, alnK, zgt_u, zgt_a, Option.toList_some, Option.toList_none, List.cons_append, List.nil_append, List.map_cons, List.map_nil, List.replicate, ite_true, ite_false, if_true, if_false, List.getElem?_cons_zero, List.getElem?_cons_succ, List.set_cons_zero, List.set_cons_succ, true_and, and_true, beq_self_eq_true, zite, Int.toNat_natCast, if_pos, if_neg, zwr_id, zand, rNs_rc hN, rIt_rc hI, s_codeAt2 hI, hx]
    refine s_addBeg hxo.2.2.1 hN (hC (by simp)) (by omega) (fun h1 N1 a1 a2 a3 a4 => ?_)
    simp (disch := omega) only [e_35, w_35_0, w_35_1, w_35_2, w_35_3, w_35_4, w_35_5, w_35_6, w_35_7, w_35_8, w_35_9, w_35_10, w_35_11, w_35_12, w_35_13, w_35_14, w_35_15, w_35_16, w_35_17, w_35_18, w_35_19, w_35_20, w_35_21, w_35_22, w_35_23, w_35_24, w_35_25, w_35_26, w_35_28, w_35_29, w_35_30, w_35_31, w_35_32, w_35_33, w_35_34, w_35_35, w_35_36, w_35_37, getK, putK, ialK, iasK, aalK, aasK, alnK, zgt_u, zgt_a, Option.toList_some, Option.toList_none, List.cons_append, List.nil_append, List.map_cons, List.map_nil, List.replicate, ite_true, ite_false, if_true, if_false, List.getElem?_cons_zero, List.getElem?_cons_succ, List.set_cons_zero, List.set_cons_succ, true_and, and_true, beq_self_eq_true, zite, Int.toNat_natCast, if_pos, if_neg, zwr_id, zand]
    have := ih (A ++ [x]) B h1 N1 L (by rw [he]; simp) (rIt_fr hI a4 hd) hL ho a1 (fun _ => clN_u (hC (by simp)) a2) (by rw [List.length_append, List.length_singleton]; omega) hd (fun h' N' b1 b2 b3 => hQ h' N' b1 (fun c => ?_) (fr_tr a4 b3))
    · rw [List.length_append, List.length_singleton] at this
      have e1 : ((A.length + 1 + M.length : Nat) : Int) = ((A.length + (M.length + 1) : Nat) : Int) := by omega
      have e2 : ((A.length + 1 : Nat) : Int) = (A.length : Int) + 1 := by omega
      rw [e1, e2] at this
      exact this
    · rw [b2 c, a2 c]
      unfold ndR
      simp [or_assoc]
/-- the items of a group stand together -/
theorem grp_split {g : Int} : ∀ {L : List zI}, srtI L → ∃ A M B, L = A ++ (M ++ B) ∧ sto g L = A.length ∧ sto (g + 1) L = ((A.length + M.length : Nat) : Int) ∧ (∀ x ∈ A, x.1 < g) ∧ (∀ x ∈ M, x.1 = g) ∧ ∀ x ∈ B, g < x.1
  | [], _ => ⟨[], [], [], rfl, rfl, rfl, by simp, by simp, by simp⟩
  | x :: L, h => by
    obtain ⟨h1, h2⟩ := List.pairwise_cons.mp h
    have hge : ∀ y ∈ L, x.1 ≤ y.1 := fun y hy => by have := h1 y hy; unfold ltI at this; omega
    obtain ⟨A, M, B, e, s1, s2, a1, a2, a3⟩ := grp_split (g := g) h2
    by_cases c1 : x.1 < g
    · refine ⟨x :: A, M, B, by rw [e]; rfl, ?_, ?_, ?_, a2, a3⟩
      · unfold sto; rw [if_pos c1, s1, List.length_cons]; omega
      · unfold sto; rw [if_pos (by omega), s2, List.length_cons]; omega
      · intro y hy
        rcases List.mem_cons.mp hy with rfl | hy
        · exact c1
        · exact a1 y hy
    · have hA : A = [] := by
        cases A with
        | nil => rfl
        | cons y A => exfalso; have q1 := a1 y (by simp); have q2 := hge y (by rw [e]; simp); omega
      subst hA
      by_cases c2 : x.1 = g
      · refine ⟨[], x :: M, B, by rw [e]; rfl, ?_, ?_, by simp, ?_, a3⟩
        · unfold sto; rw [if_neg c1]; rfl
        · unfold sto; rw [if_pos (by omega), s2, List.length_cons]; simp
        · intro y hy
          rcases List.mem_cons.mp hy with rfl | hy
          · exact c2
          · exact a2 y hy
      · refine ⟨[], [], x :: L, rfl, ?_, ?_, by simp, by simp, ?_⟩
        · unfold sto; rw [if_neg c1]; rfl
        · unfold sto; rw [if_neg (by omega)]; rfl
        · intro y hy
          rcases List.mem_cons.mp hy with rfl | hy
          · omega
          · have := hge y hy; omega
/-- the nodes of a group -/
def nod (L : List zI) (g c : Int) : Prop := ∃ x ∈ L, x.1 = g ∧ bgn x.2.1 c
theorem nod_M {A M B : List zI} {g c : Int} (a1 : ∀ x ∈ A, x.1 < g) (a2 : ∀ x ∈ M, x.1 = g) (a3 : ∀ x ∈ B, g < x.1) : nod (A ++ (M ++ B)) g c ↔ ndR M c := by
  constructor
  · rintro ⟨x, hx, hg, hb⟩
    rcases List.mem_append.mp hx with q | q
    · have := a1 x q; omega
    · rcases List.mem_append.mp q with q | q
      · exact ⟨x, q, hb⟩
      · have := a3 x q; omega
  · rintro ⟨x, hx, hb⟩
    exact ⟨x, List.mem_append_right _ (List.mem_append_left _ hx), a2 x hx, hb⟩
/-- the nodes' object, whatever was read -/
def rNw (h : zH) (b : Nat) (rd : Int) : Prop := ∃ sz R C, rNo h b rd sz R C ∧ ∀ i, R i ≤ rd
theorem rNw_of (hN : rNs h b rd N) : rNw h b rd := by
  obtain ⟨R, C, h0, -, -, n3, -⟩ := hN
  exact ⟨_, R, C, h0, n3⟩
theorem rNw_rc {as : List zV} (hN : rNw h b rd) : zrecv h 3 (.inr (.inl (some b)) :: as) = true := by
  obtain ⟨sz, R, C, h0, -⟩ := hN
  exact zrc h0.1
theorem s_read {bI : Nat} {L : List zI} {g : Int} (hI : rIt h bI L) (hL : L.length ≤ 48) (ho : okIs L) (hs : srtI L) (hg : 0 ≤ g ∧ g ≤ 6) (hN : rNw h b rd) (hr : 0 ≤ rd ∧ rd ≤ 100000) (hd : bI + 4 ≤ b ∨ b + 3 ≤ bI) (hQ : ∀ h' N', rNs h' b (rd + 1) N' → (∀ c, c ∈ N' ↔ nod L g c) → fr h h' b 3 → Q none h') : zca sc 35 [.inr (.inl (some b)), .inr (.inl (some bI)), .inl g] h Q := by
  obtain ⟨A, M, B, e, s1, s2, a1, a2, a3⟩ := grp_split (g := g) hs
  obtain ⟨sz, R, C, ⟨g0, g1, g2⟩, n3⟩ := hN
  simp (disch := omega) only [e_35, w_35_0, w_35_1, w_35_2, w_35_3, w_35_4, w_35_5, w_35_6, w_35_7, w_35_8, getK, putK, ialK, iasK, aalK, aasK, alnK, zgt_u, zgt_a, Option.toList_some, Option.toList_none, List.cons_append, List.nil_append, List.map_cons, List.map_nil, List.replicate, ite_true, ite_false, if_true, if_false, List.getElem?_cons_zero, List.getElem?_cons_succ, List.set_cons_zero, List.set_cons_succ, true_and, and_true, beq_self_eq_true, zite, Int.toNat_natCast, if_pos, if_neg, zwr_id, zand, g0]
  generalize hh : zuH _ b _ = h1
  have hf1 : fr h h1 b 3 := by rw [← hh]; exact fr_u (fr_u fr_rf (by omega) (by omega)) (by omega) (by omega)
  have hI1 := rIt_fr hI hf1 hd
  have hN1 : rNs h1 b (rd + 1) [] := by
    refine ⟨R, C, ⟨?_, ?_, ?_⟩, fun i c hi => by simp at hi, fun c _ => ⟨fun q => ?_, fun q => by cases q⟩, fun i => ?_, List.nodup_nil, fun c hc => by cases hc⟩
    · rw [← hh]
      simp (disch := omega) only [zgt_u, zgt_a, if_pos, if_neg, if_true, if_false, ite_true, ite_false]
      rfl
    · rw [← hh]
      simp (disch := omega) only [zgt_u, zgt_a, if_pos, if_neg, if_true, if_false, ite_true, ite_false]
      exact g1
    · rw [← hh]
      simp (disch := omega) only [zgt_u, zgt_a, if_pos, if_neg, if_true, if_false, ite_true, ite_false]
      exact g2
    · have := n3 (nu c); omega
    · have := n3 i; omega
  have hlen : L.length = A.length + M.length + B.length := by rw [e]; simp; omega
  by_cases hM : M = []
  · subst hM
    rw [List.length_nil, Nat.add_zero] at s2 hlen
    simp (disch := omega) only [e_35, w_35_0, w_35_1, w_35_2, w_35_3, w_35_4, w_35_5, w_35_6, w_35_7, w_35_8, w_35_9, w_35_10, w_35_11, w_35_12, w_35_13, w_35_14, w_35_15, w_35_16, w_35_17, w_35_18, w_35_19, w_35_20, w_35_21, w_35_22, w_35_23, w_35_24, w_35_25, w_35_26, w_35_28, w_35_29, w_35_30, w_35_31, w_35_32, w_35_33, w_35_34, w_35_35, w_35_36, w_35_37, getK, putK, ialK, iasK, aalK, aasK, alnK, zgt_u, zgt_a, Option.toList_some, Option.toList_none, List.cons_append, List.nil_append, List.map_cons, List.map_nil, List.replicate, ite_true, ite_false, if_true, if_false, List.getElem?_cons_zero, List.getElem?_cons_succ, List.set_cons_zero, List.set_cons_succ, true_and, and_true, beq_self_eq_true, zite, Int.toNat_natCast, if_pos, if_neg, zwr_id, zand, rIt_rc hI1, s_startOf hI1 hL, s1, s2, rNs_rc hN1]
    have := lp_read (sc := sc) (Q := Q) (g := g) (some (.inl A.length)) [] A B h1 [] L e hI1 hL ho hN1 (fun q => absurd rfl q) (by simp) hd (fun h' N' b1 b2 b3 => hQ h' N' b1 (fun c => by rw [b2 c, e, nod_M a1 a2 a3]; simp) (fr_tr hf1 b3))
    rw [List.length_nil, Nat.add_zero] at this
    exact this
  · have hm : 0 < M.length := by cases M with | nil => exact absurd rfl hM | cons _ _ => simp
    simp (disch := omega) only [e_35, w_35_0, w_35_1, w_35_2, w_35_3, w_35_4, w_35_5, w_35_6, w_35_7, w_35_8, w_35_9, w_35_10, w_35_11, w_35_12, w_35_13, w_35_14, w_35_15, w_35_16, w_35_17, w_35_18, w_35_19, w_35_20, w_35_21, w_35_22, w_35_23, w_35_24, w_35_25, w_35_26, w_35_28, w_35_29, w_35_30, w_35_31, w_35_32, w_35_33, w_35_34, w_35_35, w_35_36, w_35_37, getK, putK, ialK, iasK, aalK, aasK, alnK, zgt_u, zgt_a, Option.toList_some, Option.toList_none, List.cons_append, List.nil_append, List.map_cons, List.map_nil, List.replicate, ite_true, ite_false, if_true, if_false, List.getElem?_cons_zero, List.getElem?_cons_succ, List.set_cons_zero, List.set_cons_succ, true_and, and_true, beq_self_eq_true, zite, Int.toNat_natCast, if_pos, if_neg, zwr_id, zand, rIt_rc hI1, s_startOf hI1 hL, s1, s2, rNs_rc hN1]
    refine s_nadd hN1 vc_0 (by simp) (by simp) (fun h2 hN2 hf2 => ?_)
    have hI2 := rIt_fr hI1 hf2 hd
    simp (disch := omega) only [e_35, w_35_0, w_35_1, w_35_2, w_35_3, w_35_4, w_35_5, w_35_6, w_35_7, w_35_8, w_35_9, w_35_10, w_35_11, w_35_12, w_35_13, w_35_14, w_35_15, w_35_16, w_35_17, w_35_18, w_35_19, w_35_20, w_35_21, w_35_22, w_35_23, w_35_24, w_35_25, w_35_26, w_35_28, w_35_29, w_35_30, w_35_31, w_35_32, w_35_33, w_35_34, w_35_35, w_35_36, w_35_37, getK, putK, ialK, iasK, aalK, aasK, alnK, zgt_u, zgt_a, Option.toList_some, Option.toList_none, List.cons_append, List.nil_append, List.map_cons, List.map_nil, List.replicate, ite_true, ite_false, if_true, if_false, List.getElem?_cons_zero, List.getElem?_cons_succ, List.set_cons_zero, List.set_cons_succ, true_and, and_true, beq_self_eq_true, zite, Int.toNat_natCast, if_pos, if_neg, zwr_id, zand]
    have hcl : clN ([] ++ [0]) := ⟨by simp, fun c hc => by rw [List.mem_singleton.mp hc]; simp⟩
    refine lp_read (sc := sc) (Q := Q) (g := g) (some (.inl A.length)) M A B h2 _ L e hI2 hL ho hN2 (fun _ => hcl) (by simp) hd (fun h' N' b1 b2 b3 => hQ h' N' b1 (fun c => ?_) (fr_tr hf1 (fr_tr hf2 b3)))
    rw [b2 c, e, nod_M a1 a2 a3, List.nil_append, List.mem_singleton]
    constructor
    · rintro (q | q)
      · obtain ⟨x, hx⟩ := List.exists_mem_of_ne_nil M hM
        exact ⟨x, hx, by rw [q]; exact bgn_0 (by have := (ho x (by rw [e]; simp [hx])).2.2.1.1; omega)⟩
      · exact q
    · exact Or.inr
/-- the length of a failure -/
def fal (p : Int → Prop) [DecidablePred p] (c : Int) : Nat → Nat
  | 0 => 0
  | m + 1 => if p (c % tp (m + 1)) then m + 1 else fal p c m
theorem fal_cg {p q : Int → Prop} [DecidablePred p] [DecidablePred q] {c : Int} (h : ∀ m, p (c % tp m) ↔ q (c % tp m)) : ∀ m, fal p c m = fal q c m
  | 0 => rfl
  | m + 1 => by
    unfold fal
    rw [fal_cg h m]
    by_cases hp : p (c % tp (m + 1))
    · rw [if_pos hp, if_pos ((h _).mp hp)]
    · rw [if_neg hp, if_neg (fun q => hp ((h _).mpr q))]
theorem em_s (m : Nat) (c : Int) : c % tp (m + 1) = c % 10 + 10 * (c / 10 % tp m) := by
  have ht := tp_pos m
  have e1 : c / tp (m + 1) = c / 10 / tp m := by
    show c / (10 * tp m) = _
    rw [Int.ediv_ediv_of_nonneg (by omega)]
  rw [Int.emod_def, e1, Int.emod_def (c / 10), show tp (m + 1) = 10 * tp m from rfl, Int.mul_assoc]
  omega
theorem md_dg : ∀ (m : Nat) {c : Int}, 0 ≤ c → dg c = true → dg (c % tp m) = true
  | 0, c, _, _ => by
    have : c % tp 0 = 0 := Int.emod_one c
    rw [this]; exact dg_0 (Int.le_refl _)
  | m + 1, c, h0, h => by
    have ht := tp_pos m
    have e0 : c % tp (m + 1) = c % 10 + 10 * (c / 10 % tp m) := em_s m c
    by_cases hp : 0 < c
    · rw [dg_p hp] at h
      simp only [Bool.and_eq_true, decide_eq_true_eq] at h
      have ih := md_dg m (c := c / 10) (by omega) h.2
      have h2 := Int.emod_nonneg (c / 10) (show tp m ≠ 0 by omega)
      rw [e0, dg_p (by omega)]
      rw [show (c % 10 + 10 * (c / 10 % tp m)) % 10 = c % 10 by omega, show (c % 10 + 10 * (c / 10 % tp m)) / 10 = c / 10 % tp m by omega, ih]
      simp [h.1]
    · rw [show c = 0 by omega, Int.zero_emod]; exact dg_0 (Int.le_refl _)
theorem vc_md {c : Int} (m : Nat) (h : vc c) : vc (c % tp m) := by
  have ht := tp_pos m
  have h1 := Int.emod_nonneg c (show tp m ≠ 0 by omega)
  have h2 := h.1
  have h3 := h.2.1
  have h4 : c % tp m ≤ c := by
    have h5 : 0 ≤ tp m * (c / tp m) := Int.mul_nonneg (by omega) (Int.ediv_nonneg h2 (by omega))
    rw [Int.emod_def]
    omega
  exact ⟨h1, by omega, md_dg m h2 h.2.2⟩
/-- digits of an ending -/
theorem nd_md : ∀ (m : Nat) {c : Int}, dg c = true → (m : Int) ≤ nd c → nd (c % tp m) = m
  | 0, c, _, _ => by
    have : c % tp 0 = 0 := Int.emod_one c
    rw [this]; exact nd_0 (Int.le_refl _)
  | m + 1, c, h, hm => by
    have ht := tp_pos m
    have hp : 0 < c := by
      rcases Int.lt_or_le 0 c with q | q
      · exact q
      · rw [nd_0 q] at hm; omega
    have e0 : c % tp (m + 1) = c % 10 + 10 * (c / 10 % tp m) := em_s m c
    rw [dg_p hp] at h
    simp only [Bool.and_eq_true, decide_eq_true_eq] at h
    rw [nd_p hp] at hm
    have ih := nd_md m h.2 (by omega)
    have h2 := Int.emod_nonneg (c / 10) (show tp m ≠ 0 by omega)
    rw [e0, nd_p (by omega), show (c % 10 + 10 * (c / 10 % tp m)) / 10 = c / 10 % tp m by omega, ih]
    rfl
theorem plc_tp (m : Nat) : tp m / 10 = plc m := plc_div m
theorem lp_failureOf [DecidablePred (· ∈ N)] {c : Int} (hN : rNs h b rd N) (hc : wd c) : ∀ (m : Nat), m ≤ 5 → ∃ v, nd v = fal (· ∈ N) c (min m (nd c - 1).toNat) ∧ v ≤ 444444 ∧ ∀ Q : Option zV → zH → Prop, zwp sc 38 2 [some (.inr (.inl (some b))), some (.inl c), some (.inl (tp m))] [] h Q = Q (some (.inl v)) h := by
  intro m
  have hn := wd_nd hc
  induction m with
  | zero =>
    intro _
    refine ⟨0, ?_, by omega, fun Q => ?_⟩
    · rw [Nat.zero_min]; exact nd_0 (Int.le_refl _)
    · rw [show tp 0 = 1 from rfl, w_38_2]
      simp (disch := omega) only [e_38, w_38_0, w_38_1, w_38_3, w_38_4, w_38_5, w_38_6, w_38_7, w_38_8, w_38_9, w_38_10, w_38_11, w_38_12, w_38_13, w_38_14, w_38_15, w_38_16, w_38_17, w_38_18, w_38_19, w_38_20, w_38_21, w_38_22, w_38_23, w_38_24, getK, putK, ialK, iasK, aalK, aasK, alnK, zgt_u, zgt_a, Option.toList_some, Option.toList_none, List.cons_append, List.nil_append, List.map_cons, List.map_nil, List.replicate, ite_true, ite_false, if_true, if_false, List.getElem?_cons_zero, List.getElem?_cons_succ, List.set_cons_zero, List.set_cons_succ, true_and, and_true, beq_self_eq_true, zite, Int.toNat_natCast, if_pos, if_neg, zwr_id, zand, rNs_rc hN]
  | succ m ih =>
    intro hm
    have ht := tp_pos m
    have e0 : tp (m + 1) = 10 * tp m := rfl
    have hv := vc_md (m + 1) (vc_wd hc)
    have ih := ih (by omega)
    by_cases c1 : tp (m + 1) ≤ c
    · have hl := (tp_le (m + 1)).mp c1
      rw [show min (m + 1) (nd c - 1).toNat = m + 1 by omega]
      rw [show min m (nd c - 1).toNat = m by omega] at ih
      unfold fal
      by_cases c2 : c % tp (m + 1) ∈ N
      · refine ⟨c % tp (m + 1), ?_, hv.2.1, fun Q => ?_⟩
        · rw [if_pos c2, nd_md (m + 1) hc.2.2 (by omega)]
        · rw [w_38_2]
          simp (disch := omega) only [e_38, w_38_0, w_38_1, w_38_3, w_38_4, w_38_5, w_38_6, w_38_7, w_38_8, w_38_9, w_38_10, w_38_11, w_38_12, w_38_13, w_38_14, w_38_15, w_38_16, w_38_17, w_38_18, w_38_19, w_38_20, w_38_21, w_38_22, w_38_23, w_38_24, getK, putK, ialK, iasK, aalK, aasK, alnK, zgt_u, zgt_a, Option.toList_some, Option.toList_none, List.cons_append, List.nil_append, List.map_cons, List.map_nil, List.replicate, ite_true, ite_false, if_true, if_false, List.getElem?_cons_zero, List.getElem?_cons_succ, List.set_cons_zero, List.set_cons_succ, true_and, and_true, beq_self_eq_true, zite, Int.toNat_natCast, if_pos, if_neg, zwr_id, zand, rNs_rc hN, s_has hN hv, zb_eq, zb_ne, c2, not_true]
      · rw [if_neg c2]
        obtain ⟨v, v1, v2, v3⟩ := ih
        refine ⟨v, v1, v2, fun Q => ?_⟩
        rw [w_38_2]
        simp (disch := omega) only [e_38, w_38_0, w_38_1, w_38_3, w_38_4, w_38_5, w_38_6, w_38_7, w_38_8, w_38_9, w_38_10, w_38_11, w_38_12, w_38_13, w_38_14, w_38_15, w_38_16, w_38_17, w_38_18, w_38_19, w_38_20, w_38_21, w_38_22, w_38_23, w_38_24, getK, putK, ialK, iasK, aalK, aasK, alnK, zgt_u, zgt_a, Option.toList_some, Option.toList_none, List.cons_append, List.nil_append, List.map_cons, List.map_nil, List.replicate, ite_true, ite_false, if_true, if_false, List.getElem?_cons_zero, List.getElem?_cons_succ, List.set_cons_zero, List.set_cons_succ, true_and, and_true, beq_self_eq_true, zite, Int.toNat_natCast, if_pos, if_neg, zwr_id, zand, rNs_rc hN, s_has hN hv, zb_eq, zb_ne, c2, not_false_eq_true, tp_div, v3]
    · have hl : ¬ ((m + 1 : Nat) : Int) < nd c := fun q => c1 ((tp_le (m + 1)).mpr q)
      rw [show min (m + 1) (nd c - 1).toNat = min m (nd c - 1).toNat by omega]
      obtain ⟨v, v1, v2, v3⟩ := ih
      refine ⟨v, v1, v2, fun Q => ?_⟩
      rw [w_38_2]
      simp (disch := omega) only [e_38, w_38_0, w_38_1, w_38_3, w_38_4, w_38_5, w_38_6, w_38_7, w_38_8, w_38_9, w_38_10, w_38_11, w_38_12, w_38_13, w_38_14, w_38_15, w_38_16, w_38_17, w_38_18, w_38_19, w_38_20, w_38_21, w_38_22, w_38_23, w_38_24, getK, putK, ialK, iasK, aalK, aasK, alnK, zgt_u, zgt_a, Option.toList_some, Option.toList_none, List.cons_append, List.nil_append, List.map_cons, List.map_nil, List.replicate, ite_true, ite_false, if_true, if_false, List.getElem?_cons_zero, List.getElem?_cons_succ, List.set_cons_zero, List.set_cons_succ, true_and, and_true, beq_self_eq_true, zite, Int.toNat_natCast, if_pos, if_neg, zwr_id, zand, rNs_rc hN, tp_div, v3]
theorem lp_failureOf0 : ∀ (m : Nat), zwp sc 38 2 [some (.inr (.inl (some b))), some (.inl 0), some (.inl (tp m))] [] h Q = Q (some (.inl 0)) h := by
  intro m
  induction m with
  | zero =>
    rw [show tp 0 = 1 from rfl, w_38_2]
    simp (disch := omega) only [e_38, w_38_0, w_38_1, w_38_3, w_38_4, w_38_5, w_38_6, w_38_7, w_38_8, w_38_9, w_38_10, w_38_11, w_38_12, w_38_13, w_38_14, w_38_15, w_38_16, w_38_17, w_38_18, w_38_19, w_38_20, w_38_21, w_38_22, w_38_23, w_38_24, getK, putK, ialK, iasK, aalK, aasK, alnK, zgt_u, zgt_a, Option.toList_some, Option.toList_none, List.cons_append, List.nil_append, List.map_cons, List.map_nil, List.replicate, ite_true, ite_false, if_true, if_false, List.getElem?_cons_zero, List.getElem?_cons_succ, List.set_cons_zero, List.set_cons_succ, true_and, and_true, beq_self_eq_true, zite, Int.toNat_natCast, if_pos, if_neg, zwr_id, zand]
  | succ m ih =>
    have ht := tp_pos m
    have e0 : tp (m + 1) = 10 * tp m := rfl
    rw [w_38_2]
    simp (disch := omega) only [e_38, w_38_0, w_38_1, w_38_3, w_38_4, w_38_5, w_38_6, w_38_7, w_38_8, w_38_9, w_38_10, w_38_11, w_38_12, w_38_13, w_38_14, w_38_15, w_38_16, w_38_17, w_38_18, w_38_19, w_38_20, w_38_21, w_38_22, w_38_23, w_38_24, getK, putK, ialK, iasK, aalK, aasK, alnK, zgt_u, zgt_a, Option.toList_some, Option.toList_none, List.cons_append, List.nil_append, List.map_cons, List.map_nil, List.replicate, ite_true, ite_false, if_true, if_false, List.getElem?_cons_zero, List.getElem?_cons_succ, List.set_cons_zero, List.set_cons_succ, true_and, and_true, beq_self_eq_true, zite, Int.toNat_natCast, if_pos, if_neg, zwr_id, zand, tp_div, ih]
theorem s_failureOf [DecidablePred (· ∈ N)] {c : Int} (hN : rNs h b rd N) (hc : vc c) : ∃ v, nd v = fal (· ∈ N) c (nd c - 1).toNat ∧ v ≤ 444444 ∧ ∀ Q : Option zV → zH → Prop, zca sc 38 [.inr (.inl (some b)), .inl c] h Q = Q (some (.inl v)) h := by
  by_cases hp : 0 < c
  · have hw := wd_vc hc hp
    have hn := wd_nd hw
    obtain ⟨v, v1, v2, v3⟩ := lp_failureOf (sc := sc) hN hw 5 (Nat.le_refl _)
    rw [show min 5 (nd c - 1).toNat = (nd c - 1).toNat by omega] at v1
    refine ⟨v, v1, v2, fun Q => ?_⟩
    rw [show tp 5 = 100000 from rfl] at v3
    simp (disch := omega) only [e_38, w_38_0, w_38_1, w_38_3, w_38_4, w_38_5, w_38_6, w_38_7, w_38_8, w_38_9, w_38_10, w_38_11, w_38_12, w_38_13, w_38_14, w_38_15, w_38_16, w_38_17, w_38_18, w_38_19, w_38_20, w_38_21, w_38_22, w_38_23, w_38_24, getK, putK, ialK, iasK, aalK, aasK, alnK, zgt_u, zgt_a, Option.toList_some, Option.toList_none, List.cons_append, List.nil_append, List.map_cons, List.map_nil, List.replicate, ite_true, ite_false, if_true, if_false, List.getElem?_cons_zero, List.getElem?_cons_succ, List.set_cons_zero, List.set_cons_succ, true_and, and_true, beq_self_eq_true, zite, Int.toNat_natCast, if_pos, if_neg, zwr_id, zand, v3]
  · have e : c = 0 := by have := hc.1; omega
    subst e
    refine ⟨0, ?_, by omega, fun Q => ?_⟩
    · rw [nd_0 (Int.le_refl _)]; rfl
    · have := lp_failureOf0 (sc := sc) (h := h) (Q := Q) (b := b) 5
      rw [show tp 5 = 100000 from rfl] at this
      simp (disch := omega) only [e_38, w_38_0, w_38_1, w_38_3, w_38_4, w_38_5, w_38_6, w_38_7, w_38_8, w_38_9, w_38_10, w_38_11, w_38_12, w_38_13, w_38_14, w_38_15, w_38_16, w_38_17, w_38_18, w_38_19, w_38_20, w_38_21, w_38_22, w_38_23, w_38_24, getK, putK, ialK, iasK, aalK, aasK, alnK, zgt_u, zgt_a, Option.toList_some, Option.toList_none, List.cons_append, List.nil_append, List.map_cons, List.map_nil, List.replicate, ite_true, ite_false, if_true, if_false, List.getElem?_cons_zero, List.getElem?_cons_succ, List.set_cons_zero, List.set_cons_succ, true_and, and_true, beq_self_eq_true, zite, Int.toNat_natCast, if_pos, if_neg, zwr_id, zand, this]
/-- lengths of failures together -/
def sfl (p : Int → Prop) [DecidablePred p] : List Int → Int
  | [] => 0
  | c :: L => (fal p c (nd c - 1).toNat : Int) + sfl p L
theorem sfl_c {p : Int → Prop} [DecidablePred p] {c : Int} {L : List Int} : sfl p (c :: L) = (fal p c (nd c - 1).toNat : Int) + sfl p L := rfl
theorem sfl_perm {p : Int → Prop} [DecidablePred p] {L L' : List Int} (h : L.Perm L') : sfl p L = sfl p L' := by
  induction h with
  | nil => rfl
  | cons x _ ih => unfold sfl; rw [ih]
  | swap x y l => unfold sfl; unfold sfl; omega
  | trans _ _ h1 h2 => exact h1.trans h2
theorem fal_b (p : Int → Prop) [DecidablePred p] (c : Int) : ∀ m, fal p c m ≤ m
  | 0 => Nat.le_refl _
  | m + 1 => by have := fal_b p c m; unfold fal; split <;> omega
theorem lp_failLetters [DecidablePred (· ∈ N)] {R C : Int → Int} (hN : rNs h b rd N) (h0 : rNo h b rd N.length R C) (hL : N.length ≤ 289) : ∀ (M A : List Int) (a : Int), N = A ++ M → (∀ (i : Nat) (c : Int), N[i]? = some c → C i = c) → (∀ c ∈ N, vc c) → 0 ≤ a → a ≤ 6 * A.length → zwp sc 37 4 [some (.inr (.inl (some b))), some (.inl a), some (.inl (A.length : Int))] [] h Q = Q (some (.inl (a + sfl (· ∈ N) M))) h := by
  intro M
  induction M with
  | nil =>
    intro A a e hC hv ha ha2
    obtain ⟨g0, g1, g2⟩ := h0
    rw [List.append_nil] at e
    subst e
    rw [w_37_4]
    simp (disch := omega) only [e_37, w_37_0, w_37_1, w_37_2, w_37_3, w_37_5, w_37_6, w_37_7, w_37_8, w_37_9, w_37_10, w_37_11, w_37_12, w_37_13, w_37_14, w_37_15, w_37_16, w_37_17, w_37_18, w_37_19, w_37_20, w_37_21, getK, putK, ialK, iasK, aalK, aasK, alnK, zgt_u, zgt_a, Option.toList_some, Option.toList_none, List.cons_append, List.nil_append, List.map_cons, List.map_nil, List.replicate, ite_true, ite_false, if_true, if_false, List.getElem?_cons_zero, List.getElem?_cons_succ, List.set_cons_zero, List.set_cons_succ, true_and, and_true, beq_self_eq_true, zite, Int.toNat_natCast, if_pos, if_neg, zwr_id, zand, g0, g1, g2]
    unfold sfl
    rw [Int.add_zero]
  | cons x M ih =>
    intro A a e hC hv ha ha2
    obtain ⟨g0, g1, g2⟩ := id h0
    have hx := hC A.length x (by rw [e]; simp)
    have hxv := hv x (by rw [e]; simp)
    have hl : N.length = A.length + (M.length + 1) := by rw [e]; simp
    obtain ⟨v, v1, v2, v3⟩ := s_failureOf (sc := sc) hN hxv
    have hb := fal_b (· ∈ N) x (nd x - 1).toNat
    have h6 := nd_6 (c := x) (by have := hxv.2.1; omega)
    have ih := ih (A ++ [x]) (a + nd v) (by rw [e]; simp) hC hv (by omega) (by rw [List.length_append, List.length_singleton]; omega)
    rw [List.length_append, List.length_singleton, show ((A.length + 1 : Nat) : Int) = (A.length : Int) + 1 by omega] at ih
    rw [w_37_4]
    simp (disch := omega) only [e_37, w_37_0, w_37_1, w_37_2, w_37_3, w_37_5, w_37_6, w_37_7, w_37_8, w_37_9, w_37_10, w_37_11, w_37_12, w_37_13, w_37_14, w_37_15, w_37_16, w_37_17, w_37_18, w_37_19, w_37_20, w_37_21, getK, putK, ialK, iasK, aalK, aasK, alnK, zgt_u, zgt_a, Option.toList_some, Option.toList_none, List.cons_append, List.nil_append, List.map_cons, List.map_nil, List.replicate, ite_true, ite_false, if_true, if_false, List.getElem?_cons_zero, List.getElem?_cons_succ, List.set_cons_zero, List.set_cons_succ, true_and, and_true, beq_self_eq_true, zite, Int.toNat_natCast, if_pos, if_neg, zwr_id, zand, g0, g1, g2, hx, v3, s_lettersOf5, rNs_rc hN, ih]
    rw [sfl_c, v1, Int.add_assoc]
theorem s_failLetters [DecidablePred (· ∈ N)] (hN : rNs h b rd N) (hL : N.length ≤ 289) : zca sc 37 [.inr (.inl (some b))] h Q = Q (some (.inl (sfl (· ∈ N) N))) h := by
  obtain ⟨R, C, h0, a1, a2, a3, a4, a5⟩ := id hN
  simp (disch := omega) only [e_37, w_37_0, w_37_1, w_37_2, w_37_3, w_37_5, w_37_6, w_37_7, w_37_8, w_37_9, w_37_10, w_37_11, w_37_12, w_37_13, w_37_14, w_37_15, w_37_16, w_37_17, w_37_18, w_37_19, w_37_20, w_37_21, getK, putK, ialK, iasK, aalK, aasK, alnK, zgt_u, zgt_a, Option.toList_some, Option.toList_none, List.cons_append, List.nil_append, List.map_cons, List.map_nil, List.replicate, ite_true, ite_false, if_true, if_false, List.getElem?_cons_zero, List.getElem?_cons_succ, List.set_cons_zero, List.set_cons_succ, true_and, and_true, beq_self_eq_true, zite, Int.toNat_natCast, if_pos, if_neg, zwr_id, zand]
  have := lp_failLetters (sc := sc) (Q := Q) hN h0 hL N [] 0 rfl a1 a5 (Int.le_refl _) (by simp)
  rw [Int.zero_add] at this
  exact this
theorem s_size3 (hN : rNs h b rd N) : zca sc 34 [.inr (.inl (some b))] h Q = Q (some (.inl (N.length : Int))) h := by
  obtain ⟨R, C, ⟨g0, g1, g2⟩, -⟩ := hN
  simp (disch := omega) only [e_34, w_34_0, w_34_1, w_34_2, getK, putK, ialK, iasK, aalK, aasK, alnK, zgt_u, zgt_a, Option.toList_some, Option.toList_none, List.cons_append, List.nil_append, List.map_cons, List.map_nil, List.replicate, ite_true, ite_false, if_true, if_false, List.getElem?_cons_zero, List.getElem?_cons_succ, List.set_cons_zero, List.set_cons_succ, true_and, and_true, beq_self_eq_true, zite, Int.toNat_natCast, if_pos, if_neg, zwr_id, zand, g0]
end
