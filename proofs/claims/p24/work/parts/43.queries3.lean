/-! THE CLASS ASKED ABOUT NODES -/
/-- is a code a node of a group -/
def isN (F : List zI) (g c : Int) : Bool := F.any (fun x => decide (x.1 = g) && decide (nd c ≤ nd x.2.1) && decide (bg x.2.1 (nd c) = c))
theorem dt_len : ∀ (m : Nat) {w : Int}, 0 ≤ w → (m : Int) ≤ nd w → nd (w / tp m) = nd w - m
  | 0, w, _, _ => by rw [dt_0]; simp
  | m + 1, w, h0, h => by
    have hp : 0 < w := by
      rcases Int.lt_or_le 0 w with q | q
      · exact q
      · rw [nd_0 q] at h; omega
    rw [nd_p hp] at h ⊢
    rw [← div_tp m h0, dt_len m (by omega) (by omega)]
    omega
theorem isN_nod {F : List zI} {g c : Int} (ho : okIs F) : isN F g c = true ↔ nod F g c := by
  unfold isN nod bgn
  rw [List.any_eq_true]
  constructor
  · rintro ⟨x, hx, h⟩
    simp only [Bool.and_eq_true, decide_eq_true_eq] at h
    obtain ⟨⟨h1, h2⟩, h3⟩ := h
    exact ⟨x, hx, h1, _, h3.symm⟩
  · rintro ⟨x, hx, h1, m, h2⟩
    have h0 : 0 ≤ x.2.1 := by have := (ho x hx).2.2.1.1; omega
    refine ⟨x, hx, ?_⟩
    simp only [Bool.and_eq_true, decide_eq_true_eq]
    have hn := nd_nn x.2.1
    by_cases hm : (m : Int) ≤ nd x.2.1
    · have e := dt_len m h0 hm
      rw [← h2] at e
      refine ⟨⟨h1, by omega⟩, ?_⟩
      unfold bg
      rw [e, show (nd x.2.1 - (nd x.2.1 - m)).toNat = m by omega]
      exact h2.symm
    · have e : c = 0 := by rw [h2]; exact dt_nd h0 m (by omega)
      rw [e, nd_0 (Int.le_refl _)]
      refine ⟨⟨h1, hn⟩, ?_⟩
      unfold bg
      exact dt_nd h0 _ (by omega)
/-- the nodes of a group, the empty one aside: as the words and their beginnings come -/
def layX (g : Int) (x : zI) : Nat → List Int → List Int
  | 0, N => N
  | j + 1, N => layX g x j (if bg x.2.1 (nd x.2.1 - j) ∈ N then N else N ++ [bg x.2.1 (nd x.2.1 - j)])
def layF (g : Int) : List zI → List Int → List Int
  | [], N => N
  | x :: F, N => layF g F (if x.1 = g then layX g x (nd x.2.1).toNat N else N)
theorem layX_ok {g : Int} {x : zI} : ∀ (j : Nat) (N : List Int), (j : Int) ≤ nd x.2.1 → N.Nodup → (layX g x j N).Nodup ∧ ∀ c, c ∈ layX g x j N ↔ c ∈ N ∨ ∃ i : Nat, i < j ∧ c = x.2.1 / tp i
  | 0, N, _, h => ⟨h, fun c => by simp [layX]⟩
  | j + 1, N, hj, h => by
    have e : bg x.2.1 (nd x.2.1 - j) = x.2.1 / tp j := by
      unfold bg
      rw [show (nd x.2.1 - (nd x.2.1 - (j : Int))).toNat = j by omega]
    unfold layX
    rw [e]
    have hN : (if x.2.1 / tp j ∈ N then N else N ++ [x.2.1 / tp j]).Nodup := by
      split
      · exact h
      · rw [List.nodup_append]
        exact ⟨h, by simp, fun a ha b hb => by rw [List.mem_singleton.mp hb]; intro q; exact absurd (q ▸ ha) (by assumption)⟩
    have hm : ∀ c, c ∈ (if x.2.1 / tp j ∈ N then N else N ++ [x.2.1 / tp j]) ↔ c ∈ N ∨ c = x.2.1 / tp j := by
      intro c
      split
      next q =>
        constructor
        · exact Or.inl
        · rintro (r | r)
          · exact r
          · rw [r]; exact q
      next q => rw [List.mem_append, List.mem_singleton]
    obtain ⟨i1, i2⟩ := layX_ok (g := g) (x := x) j _ (by omega) hN
    refine ⟨i1, fun c => ?_⟩
    rw [i2 c, hm c]
    constructor
    · rintro ((q | q) | ⟨i, q1, q2⟩)
      · exact Or.inl q
      · exact Or.inr ⟨j, by omega, q⟩
      · exact Or.inr ⟨i, by omega, q2⟩
    · rintro (q | ⟨i, q1, q2⟩)
      · exact Or.inl (Or.inl q)
      · by_cases e : i = j
        · exact Or.inl (Or.inr (by rw [q2, e]))
        · exact Or.inr ⟨i, by omega, q2⟩
theorem dt_pos {w : Int} {i : Nat} (hw : 0 ≤ w) : (i : Int) < nd w ↔ 0 < w / tp i := by
  have h := tp_pos i
  rw [← tp_le]
  constructor
  · intro q
    have := Int.le_ediv_of_mul_le h (show 1 * tp i ≤ w by omega)
    omega
  · intro q
    rcases Int.lt_or_le w (tp i) with r | r
    · rw [Int.ediv_eq_zero_of_lt hw r] at q; omega
    · exact r
theorem layF_ok {g : Int} : ∀ (F : List zI) (N : List Int), okIs F → N.Nodup → (layF g F N).Nodup ∧ ∀ c, c ∈ layF g F N ↔ c ∈ N ∨ (0 < c ∧ nod F g c)
  | [], N, _, h => ⟨h, fun c => by simp [layF, nod]⟩
  | x :: F, N, ho, h => by
    have ho := okIs_c.mp ho
    have hx := ho.1.2.2.1.1
    have hn := nd_nn x.2.1
    unfold layF
    by_cases e : x.1 = g
    · rw [if_pos e]
      obtain ⟨a1, a2⟩ := layX_ok (g := g) (x := x) (nd x.2.1).toNat N (by omega) h
      obtain ⟨b1, b2⟩ := layF_ok F _ ho.2 a1
      refine ⟨b1, fun c => ?_⟩
      rw [b2 c, a2 c]
      constructor
      · rintro ((q | ⟨i, q1, q2⟩) | ⟨q1, y, hy, q2⟩)
        · exact Or.inl q
        · exact Or.inr ⟨by rw [q2]; exact (dt_pos (by omega)).mp (by omega), x, by simp, e, i, q2⟩
        · exact Or.inr ⟨q1, y, by simp [hy], q2⟩
      · rintro (q | ⟨q1, y, hy, q2, i, q3⟩)
        · exact Or.inl (Or.inl q)
        · rcases List.mem_cons.mp hy with rfl | hy
          · exact Or.inl (Or.inr ⟨i, by have := (dt_pos (w := y.2.1) (i := i) (by omega)).mpr (by rw [← q3]; exact q1); omega, q3⟩)
          · exact Or.inr ⟨q1, y, hy, q2, i, q3⟩
    · rw [if_neg e]
      obtain ⟨b1, b2⟩ := layF_ok F N ho.2 h
      refine ⟨b1, fun c => ?_⟩
      rw [b2 c]
      constructor
      · rintro (q | ⟨q1, y, hy, q2⟩)
        · exact Or.inl q
        · exact Or.inr ⟨q1, y, by simp [hy], q2⟩
      · rintro (q | ⟨q1, y, hy, q2, q3⟩)
        · exact Or.inl q
        · rcases List.mem_cons.mp hy with rfl | hy
          · exact absurd q2 e
          · exact Or.inr ⟨q1, y, hy, q2, q3⟩
theorem layX_len {g : Int} {x : zI} : ∀ (j : Nat) (N : List Int), (layX g x j N).length ≤ N.length + j
  | 0, _ => Nat.le_refl _
  | j + 1, N => by
    unfold layX
    refine Nat.le_trans (layX_len j _) ?_
    split
    · omega
    · rw [List.length_append, List.length_singleton]; omega
theorem layF_len {g : Int} : ∀ (F : List zI) (N : List Int), okIs F → (layF g F N).length ≤ N.length + 6 * F.length
  | [], _, _ => Nat.le_refl _
  | x :: F, N, ho => by
    have ho := okIs_c.mp ho
    have hw := wd_nd ho.1.2.2.1
    unfold layF
    refine Nat.le_trans (layF_len F _ ho.2) ?_
    rw [List.length_cons]
    split
    · have := layX_len (g := g) (x := x) (nd x.2.1).toNat N; omega
    · omega
theorem sfl_cg {p q : Int → Prop} [DecidablePred p] [DecidablePred q] : ∀ {L : List Int}, (∀ c ∈ L, ∀ m, p (c % tp m) ↔ q (c % tp m)) → sfl p L = sfl q L
  | [], _ => rfl
  | c :: L, h => by rw [sfl_c, sfl_c, fal_cg (h c (by simp)), sfl_cg (fun d hd => h d (by simp [hd]))]
def grS (z : zS) (f g w : Int) : Int := if ((0 ≤ f ∧ f ≤ 1) ∧ (0 ≤ g ∧ g ≤ 6)) ∧ 0 ≤ w ∧ w ≤ 4 then (if w = 0 then cti g (famS z f) else if w = 1 then (if cti g (famS z f) = 0 then 0 else 1 + ((layF g (famS z f) []).length : Int)) else if w = 2 then lti g (famS z f) else if w = 3 then sfl (fun c => isN (famS z f) g c = true) (layF g (famS z f) []) else wti g (famS z f)) else -1
/-- the followed node -/
def foF (p : Int → Bool) (T : Int → Int) (i : Int) : Nat → Int
  | 0 => 0
  | m + 1 => if p (tc T i (m + 1)) = true then tc T i (m + 1) else foF p T i m
def foS (z : zS) (f g i : Int) : Int := if ((0 ≤ f ∧ f ≤ 1) ∧ (0 ≤ g ∧ g ≤ 6)) ∧ 0 ≤ i then (if cti g (famS z f) = 0 ∨ z.n < i then -9999 else foF (isN (famS z f) g) z.T i (min i 6).toNat) else -1
theorem tc_dg {T : Int → Int} {len : Int} (hT : okT T len) : ∀ (n : Nat) (r : Int), (n : Int) ≤ r → r ≤ len → dg (tc T r n) = true
  | 0, _, _, _ => dg_0 (Int.le_refl _)
  | n + 1, r, h1, h2 => by
    have ih := tc_dg hT n (r - 1) (by omega) (by omega)
    have hb := tc_b hT n (r - 1) (by omega) (by omega)
    have := hT.2.2 (r - 1) (by omega) (by omega)
    unfold tc
    rw [dg_p (by omega), show (tc T (r - 1) n * 10 + T (r - 1) + 1) / 10 = tc T (r - 1) n by omega, ih, show (tc T (r - 1) n * 10 + T (r - 1) + 1) % 10 = T (r - 1) + 1 by omega]
    simp
    omega
theorem nod_perm {L M : List zI} {g c : Int} (h : L.Perm M) : nod L g c ↔ nod M g c := by
  unfold nod
  constructor
  · rintro ⟨x, hx, r⟩; exact ⟨x, h.mem_iff.mp hx, r⟩
  · rintro ⟨x, hx, r⟩; exact ⟨x, h.mem_iff.mpr hx, r⟩
theorem cti_nod {F : List zI} {g : Int} (ho : okIs F) : cti g F = 0 ↔ ¬ nod F g 0 := by
  rw [cti_nil]
  constructor
  · rintro h ⟨x, hx, e, -⟩
    exact h x hx e
  · intro h x hx e
    exact h ⟨x, hx, e, bgn_0 (by have := (ho x hx).2.2.1.1; omega)⟩
theorem vc_le {c : Int} (h0 : 0 ≤ c) (h6 : c < 1000000) (hd : dg c = true) : vc c := by
  refine ⟨h0, ?_, hd⟩
  have step : ∀ {c : Int}, 0 ≤ c → dg c = true → c % 10 ≤ 4 ∧ dg (c / 10) = true := by
    intro c h0 hd
    by_cases hp : 0 < c
    · rw [dg_p hp] at hd
      simp only [Bool.and_eq_true, decide_eq_true_eq] at hd
      exact ⟨hd.1.2, hd.2⟩
    · rw [show c = 0 by omega]
      exact ⟨by omega, dg_0 (by omega)⟩
  obtain ⟨a1, a2⟩ := step h0 hd
  obtain ⟨b1, b2⟩ := step (show 0 ≤ c / 10 by omega) a2
  obtain ⟨c1, c2⟩ := step (show 0 ≤ c / 10 / 10 by omega) b2
  obtain ⟨d1, d2⟩ := step (show 0 ≤ c / 10 / 10 / 10 by omega) c2
  obtain ⟨e1, e2⟩ := step (show 0 ≤ c / 10 / 10 / 10 / 10 by omega) d2
  obtain ⟨f1, f2⟩ := step (show 0 ≤ c / 10 / 10 / 10 / 10 / 10 by omega) e2
  omega
/-- what the class's list of nodes has to do with the model's -/
theorem nodes_perm {F : List zI} {g : Int} {N : List Int} (ho : okIs F) (hN : N.Nodup) (hm : ∀ c, c ∈ N ↔ nod F g c) : N.Perm (if cti g F = 0 then [] else 0 :: layF g F []) := by
  obtain ⟨l1, l2⟩ := layF_ok (g := g) F [] ho List.nodup_nil
  by_cases e : cti g F = 0
  · rw [if_pos e]
    have : N = [] := by
      cases N with
      | nil => rfl
      | cons c N =>
        obtain ⟨x, hx, hg, -⟩ := (hm c).mp (by simp)
        exact absurd hg (cti_nil.mp e x hx)
    rw [this]
  · rw [if_neg e]
    have h0 : nod F g 0 := by
      by_cases q : nod F g 0
      · exact q
      · exact absurd ((cti_nod ho).mpr q) e
    have hnd : (0 :: layF g F []).Nodup := by
      rw [List.nodup_cons]
      refine ⟨fun q => ?_, l1⟩
      rcases (l2 0).mp q with r | r
      · cases r
      · omega
    rw [List.perm_ext_iff_of_nodup hN hnd]
    intro c
    rw [hm c, List.mem_cons, l2 c]
    constructor
    · intro q
      by_cases hc : c = 0
      · exact Or.inl hc
      · right; right
        refine ⟨?_, q⟩
        obtain ⟨x, hx, -, m, hm⟩ := q
        have : 0 ≤ c := by rw [hm]; exact Int.ediv_nonneg (by have := (ho x hx).2.2.1.1; omega) (by have := tp_pos m; omega)
        omega
    · rintro (q | q | q)
      · rw [q]; exact h0
      · cases q
      · exact q.2
section
variable {sc : Nat × (Int → Int)} {h : zH} {Q : Option zV → zH → Prop} {z : zS} {c : Nat}
theorem fam_read {f g : Int} {bI : Nat} (hC : rC h z c) (hc : c ≤ 100000) (hz : okZ z) (hg : 0 ≤ g ∧ g ≤ 6) (hb : bI = 10 ∨ bI = 14) (b1 : rIt h bI (srtF (famS z f))) (b3 : (srtF (famS z f)).length ≤ 48) (b4 : okIs (srtF (famS z f))) (hQ : ∀ h' rd N, rC h' z (c + 1) → frC h h' → rNs h' 21 rd N → (∀ d, d ∈ N ↔ nod (famS z f) g d) → Q none h') : zca sc 35 [.inr (.inl (some 21)), .inr (.inl (some bI)), .inl g] h Q := by
  obtain ⟨c0, c1, c2, c3, ⟨rd, c4, c5, c6⟩, c7⟩ := id hC
  exact s_read b1 b3 b4 (srtF_srt _) hg c4 ⟨by omega, by omega⟩ (by omega) (fun h' N' a1 a2 a3 => hQ h' _ N' (rC_N hC a1 ⟨by omega, by omega⟩ a3) (frC_fr a3 (by omega)) a1 (fun d => by rw [a2 d, nod_perm (srtF_perm _)]))
theorem s5_group {f g w : Int} (hC : rC h z c) (hc : c ≤ 100000) (hz : okZ z) (hQ : ∀ h', rC h' z (c + 1) → frC h h' → Q (some (.inl (grS z f g w))) h') : zca sc 75 [.inr (.inl (some 0)), .inl f, .inl g, .inl w] h Q := by
  obtain ⟨c0, c1, c2, -⟩ := id hC
  unfold grS at hQ
  by_cases h0 : (0 ≤ f ∧ f ≤ 1) ∧ (0 ≤ g ∧ g ≤ 6)
  · by_cases h2 : 0 ≤ w
    · by_cases h3 : w ≤ 4
      · rw [if_pos ⟨h0, h2, h3⟩] at hQ
        obtain ⟨bI, hbI, b1, b2, b3, b4, b5⟩ := fam_C (sc := sc) hC hz h0.1
        have ho : okIs (famS z f) := okIs_perm (srtF_perm _) b4
        have e1 := cti_F g (famS z f)
        have e2 := lti_perm (g := g) (srtF_perm (famS z f))
        have e3 := wti_perm (g := g) (srtF_perm (famS z f))
        by_cases k0 : w = 0
        · subst k0
          rw [if_pos rfl] at hQ
          simp (disch := omega) only [e_75, w_75_0, w_75_1, w_75_2, w_75_3, w_75_4, w_75_5, w_75_6, w_75_7, w_75_8, w_75_9, w_75_10, w_75_11, w_75_12, w_75_13, w_75_14, w_75_15, w_75_16, w_75_17, w_75_18, w_75_19, w_75_20, w_75_21, w_75_22, w_75_23, w_75_24, w_75_25, w_75_26, w_75_27, w_75_28, w_75_29, w_75_30, w_75_31, w_75_32, w_75_33, w_75_34, w_75_35, w_75_36, w_75_37, w_75_38, w_75_39, w_75_40, w_75_41, w_75_42, w_75_43, w_75_44, w_75_45, getK, putK, ialK, iasK, aalK, aasK, alnK, zgt_u, zgt_a, Option.toList_some, Option.toList_none, List.cons_append, List.nil_append, List.map_cons, List.map_nil, List.replicate, ite_true, ite_false, if_true, if_false, List.getElem?_cons_zero, List.getElem?_cons_succ, List.set_cons_zero, List.set_cons_succ, true_and, and_true, beq_self_eq_true, zite, Int.toNat_natCast, if_pos, if_neg, zwr_id, zand, c0, s_isGroup5, zb_eq, zb_ne, h0, and_self, not_true, rDt_rc c2, b5, rIt_rc b1, s_sizeOf b1 b3, e1]
          exact hQ h (rC_c hC) frC_rf
        rw [if_neg k0] at hQ
        by_cases k2 : w = 2
        · subst k2
          rw [if_neg (by omega), if_pos rfl] at hQ
          simp (disch := omega) only [e_75, w_75_0, w_75_1, w_75_2, w_75_3, w_75_4, w_75_5, w_75_6, w_75_7, w_75_8, w_75_9, w_75_10, w_75_11, w_75_12, w_75_13, w_75_14, w_75_15, w_75_16, w_75_17, w_75_18, w_75_19, w_75_20, w_75_21, w_75_22, w_75_23, w_75_24, w_75_25, w_75_26, w_75_27, w_75_28, w_75_29, w_75_30, w_75_31, w_75_32, w_75_33, w_75_34, w_75_35, w_75_36, w_75_37, w_75_38, w_75_39, w_75_40, w_75_41, w_75_42, w_75_43, w_75_44, w_75_45, getK, putK, ialK, iasK, aalK, aasK, alnK, zgt_u, zgt_a, Option.toList_some, Option.toList_none, List.cons_append, List.nil_append, List.map_cons, List.map_nil, List.replicate, ite_true, ite_false, if_true, if_false, List.getElem?_cons_zero, List.getElem?_cons_succ, List.set_cons_zero, List.set_cons_succ, true_and, and_true, beq_self_eq_true, zite, Int.toNat_natCast, if_pos, if_neg, zwr_id, zand, c0, s_isGroup5, zb_eq, zb_ne, h0, and_self, not_true, rDt_rc c2, b5, rIt_rc b1, s_lettersIn b1 b3 b4, e2]
          exact hQ h (rC_c hC) frC_rf
        by_cases k4 : w = 4
        · subst k4
          rw [if_neg (by omega), if_neg (by omega), if_neg (by omega)] at hQ
          simp (disch := omega) only [e_75, w_75_0, w_75_1, w_75_2, w_75_3, w_75_4, w_75_5, w_75_6, w_75_7, w_75_8, w_75_9, w_75_10, w_75_11, w_75_12, w_75_13, w_75_14, w_75_15, w_75_16, w_75_17, w_75_18, w_75_19, w_75_20, w_75_21, w_75_22, w_75_23, w_75_24, w_75_25, w_75_26, w_75_27, w_75_28, w_75_29, w_75_30, w_75_31, w_75_32, w_75_33, w_75_34, w_75_35, w_75_36, w_75_37, w_75_38, w_75_39, w_75_40, w_75_41, w_75_42, w_75_43, w_75_44, w_75_45, getK, putK, ialK, iasK, aalK, aasK, alnK, zgt_u, zgt_a, Option.toList_some, Option.toList_none, List.cons_append, List.nil_append, List.map_cons, List.map_nil, List.replicate, ite_true, ite_false, if_true, if_false, List.getElem?_cons_zero, List.getElem?_cons_succ, List.set_cons_zero, List.set_cons_succ, true_and, and_true, beq_self_eq_true, zite, Int.toNat_natCast, if_pos, if_neg, zwr_id, zand, c0, s_isGroup5, zb_eq, zb_ne, h0, and_self, not_true, rDt_rc c2, b5, rIt_rc b1, s_weightsIn b1 b3 b4, e3]
          exact hQ h (rC_c hC) frC_rf
        have hnrc : ∀ as, zrecv h 3 (.inr (.inl (some 21)) :: as) = true := by
          obtain ⟨rd, c4, -⟩ := hC.2.2.2.2.1
          exact fun as => rNw_rc c4
        by_cases k1 : w = 1
        · subst k1
          rw [if_pos rfl] at hQ
          simp (disch := omega) only [e_75, w_75_0, w_75_1, w_75_2, w_75_3, w_75_4, w_75_5, w_75_6, w_75_7, w_75_8, w_75_9, w_75_10, w_75_11, w_75_12, w_75_13, w_75_14, w_75_15, w_75_16, w_75_17, w_75_18, w_75_19, w_75_20, w_75_21, w_75_22, w_75_23, w_75_24, w_75_25, w_75_26, w_75_27, w_75_28, w_75_29, w_75_30, w_75_31, w_75_32, w_75_33, w_75_34, w_75_35, w_75_36, w_75_37, w_75_38, w_75_39, w_75_40, w_75_41, w_75_42, w_75_43, w_75_44, w_75_45, getK, putK, ialK, iasK, aalK, aasK, alnK, zgt_u, zgt_a, Option.toList_some, Option.toList_none, List.cons_append, List.nil_append, List.map_cons, List.map_nil, List.replicate, ite_true, ite_false, if_true, if_false, List.getElem?_cons_zero, List.getElem?_cons_succ, List.set_cons_zero, List.set_cons_succ, true_and, and_true, beq_self_eq_true, zite, Int.toNat_natCast, if_pos, if_neg, zwr_id, zand, c0, s_isGroup5, zb_eq, zb_ne, h0, and_self, not_true, rDt_rc c2, b5, rIt_rc b1, hnrc]
          refine fam_read hC hc hz h0.2 hbI b1 b3 b4 (fun h' rd N a1 a2 a3 a4 => ?_)
          have d0 := a1.1
          have hl := (nodes_perm ho a3.choose_spec.choose_spec.2.2.2.2.1 a4).length_eq
          simp (disch := omega) only [e_75, w_75_0, w_75_1, w_75_2, w_75_3, w_75_4, w_75_5, w_75_6, w_75_7, w_75_8, w_75_9, w_75_10, w_75_11, w_75_12, w_75_13, w_75_14, w_75_15, w_75_16, w_75_17, w_75_18, w_75_19, w_75_20, w_75_21, w_75_22, w_75_23, w_75_24, w_75_25, w_75_26, w_75_27, w_75_28, w_75_29, w_75_30, w_75_31, w_75_32, w_75_33, w_75_34, w_75_35, w_75_36, w_75_37, w_75_38, w_75_39, w_75_40, w_75_41, w_75_42, w_75_43, w_75_44, w_75_45, getK, putK, ialK, iasK, aalK, aasK, alnK, zgt_u, zgt_a, Option.toList_some, Option.toList_none, List.cons_append, List.nil_append, List.map_cons, List.map_nil, List.replicate, ite_true, ite_false, if_true, if_false, List.getElem?_cons_zero, List.getElem?_cons_succ, List.set_cons_zero, List.set_cons_succ, true_and, and_true, beq_self_eq_true, zite, Int.toNat_natCast, if_pos, if_neg, zwr_id, zand, d0, rNs_rc a3, s_size3 a3]
          have e : (N.length : Int) = if cti g (famS z f) = 0 then 0 else 1 + ((layF g (famS z f) []).length : Int) := by
            rw [hl]
            split
            · rfl
            · rw [List.length_cons]; omega
          rw [e]
          exact hQ h' a1 a2
        · have k3 : w = 3 := by omega
          subst k3
          rw [if_neg (by omega), if_neg (by omega), if_pos rfl] at hQ
          simp (disch := omega) only [e_75, w_75_0, w_75_1, w_75_2, w_75_3, w_75_4, w_75_5, w_75_6, w_75_7, w_75_8, w_75_9, w_75_10, w_75_11, w_75_12, w_75_13, w_75_14, w_75_15, w_75_16, w_75_17, w_75_18, w_75_19, w_75_20, w_75_21, w_75_22, w_75_23, w_75_24, w_75_25, w_75_26, w_75_27, w_75_28, w_75_29, w_75_30, w_75_31, w_75_32, w_75_33, w_75_34, w_75_35, w_75_36, w_75_37, w_75_38, w_75_39, w_75_40, w_75_41, w_75_42, w_75_43, w_75_44, w_75_45, getK, putK, ialK, iasK, aalK, aasK, alnK, zgt_u, zgt_a, Option.toList_some, Option.toList_none, List.cons_append, List.nil_append, List.map_cons, List.map_nil, List.replicate, ite_true, ite_false, if_true, if_false, List.getElem?_cons_zero, List.getElem?_cons_succ, List.set_cons_zero, List.set_cons_succ, true_and, and_true, beq_self_eq_true, zite, Int.toNat_natCast, if_pos, if_neg, zwr_id, zand, c0, s_isGroup5, zb_eq, zb_ne, h0, and_self, not_true, rDt_rc c2, b5, rIt_rc b1, hnrc]
          refine fam_read hC hc hz h0.2 hbI b1 b3 b4 (fun h' rd N a1 a2 a3 a4 => ?_)
          have d0 := a1.1
          have hp := nodes_perm ho a3.choose_spec.choose_spec.2.2.2.2.1 a4
          have hlen : N.length ≤ 289 := by
            have l1 := layF_len (g := g) (famS z f) [] ho
            have l2 := hp.length_eq
            split at l2
            · rw [l2]; exact Nat.zero_le _
            · rw [List.length_cons] at l2
              rw [List.length_nil] at l1
              omega
          simp (disch := omega) only [e_75, w_75_0, w_75_1, w_75_2, w_75_3, w_75_4, w_75_5, w_75_6, w_75_7, w_75_8, w_75_9, w_75_10, w_75_11, w_75_12, w_75_13, w_75_14, w_75_15, w_75_16, w_75_17, w_75_18, w_75_19, w_75_20, w_75_21, w_75_22, w_75_23, w_75_24, w_75_25, w_75_26, w_75_27, w_75_28, w_75_29, w_75_30, w_75_31, w_75_32, w_75_33, w_75_34, w_75_35, w_75_36, w_75_37, w_75_38, w_75_39, w_75_40, w_75_41, w_75_42, w_75_43, w_75_44, w_75_45, getK, putK, ialK, iasK, aalK, aasK, alnK, zgt_u, zgt_a, Option.toList_some, Option.toList_none, List.cons_append, List.nil_append, List.map_cons, List.map_nil, List.replicate, ite_true, ite_false, if_true, if_false, List.getElem?_cons_zero, List.getElem?_cons_succ, List.set_cons_zero, List.set_cons_succ, true_and, and_true, beq_self_eq_true, zite, Int.toNat_natCast, if_pos, if_neg, zwr_id, zand, d0, rNs_rc a3, s_failLetters a3]
          have e : sfl (· ∈ N) N = sfl (fun c => isN (famS z f) g c = true) (layF g (famS z f) []) := by
            have s1 : sfl (· ∈ N) N = sfl (fun c => isN (famS z f) g c = true) N := sfl_cg (fun d _ m => by rw [a4, isN_nod ho])
            rw [s1, sfl_perm hp]
            split
            next q =>
              have : layF g (famS z f) [] = [] := by
                cases hl : layF g (famS z f) [] with
                | nil => rfl
                | cons d N' =>
                  rcases ((layF_ok (g := g) (famS z f) [] ho List.nodup_nil).2 d).mp (by rw [hl]; simp) with r | ⟨-, x, hx, hg, -⟩
                  · cases r
                  · exact absurd hg (cti_nil.mp q x hx)
              rw [this]
            next q =>
              rw [sfl_c, nd_0 (Int.le_refl _)]
              show (0 : Int) + _ = _
              rw [Int.zero_add]
          rw [e]
          exact hQ h' a1 a2
      · rw [if_neg (fun q => h3 q.2.2)] at hQ
        simp (disch := omega) only [e_75, w_75_0, w_75_1, w_75_2, w_75_3, w_75_4, w_75_5, w_75_6, w_75_7, w_75_8, w_75_9, w_75_10, w_75_11, w_75_12, w_75_13, w_75_14, w_75_15, w_75_16, w_75_17, w_75_18, w_75_19, w_75_20, w_75_21, w_75_22, w_75_23, w_75_24, w_75_25, w_75_26, w_75_27, w_75_28, w_75_29, w_75_30, w_75_31, w_75_32, w_75_33, w_75_34, w_75_35, w_75_36, w_75_37, w_75_38, w_75_39, w_75_40, w_75_41, w_75_42, w_75_43, w_75_44, w_75_45, getK, putK, ialK, iasK, aalK, aasK, alnK, zgt_u, zgt_a, Option.toList_some, Option.toList_none, List.cons_append, List.nil_append, List.map_cons, List.map_nil, List.replicate, ite_true, ite_false, if_true, if_false, List.getElem?_cons_zero, List.getElem?_cons_succ, List.set_cons_zero, List.set_cons_succ, true_and, and_true, beq_self_eq_true, zite, Int.toNat_natCast, if_pos, if_neg, zwr_id, zand, c0, s_isGroup5, zb_eq, zb_ne, h0, and_self, not_true]
        exact hQ h (rC_c hC) frC_rf
    · rw [if_neg (fun q => h2 q.2.1)] at hQ
      simp (disch := omega) only [e_75, w_75_0, w_75_1, w_75_2, w_75_3, w_75_4, w_75_5, w_75_6, w_75_7, w_75_8, w_75_9, w_75_10, w_75_11, w_75_12, w_75_13, w_75_14, w_75_15, w_75_16, w_75_17, w_75_18, w_75_19, w_75_20, w_75_21, w_75_22, w_75_23, w_75_24, w_75_25, w_75_26, w_75_27, w_75_28, w_75_29, w_75_30, w_75_31, w_75_32, w_75_33, w_75_34, w_75_35, w_75_36, w_75_37, w_75_38, w_75_39, w_75_40, w_75_41, w_75_42, w_75_43, w_75_44, w_75_45, getK, putK, ialK, iasK, aalK, aasK, alnK, zgt_u, zgt_a, Option.toList_some, Option.toList_none, List.cons_append, List.nil_append, List.map_cons, List.map_nil, List.replicate, ite_true, ite_false, if_true, if_false, List.getElem?_cons_zero, List.getElem?_cons_succ, List.set_cons_zero, List.set_cons_succ, true_and, and_true, beq_self_eq_true, zite, Int.toNat_natCast, if_pos, if_neg, zwr_id, zand, c0, s_isGroup5, zb_eq, zb_ne, h0, and_self, not_true]
      exact hQ h (rC_c hC) frC_rf
  · rw [if_neg (fun q => h0 q.1)] at hQ
    simp (disch := omega) only [e_75, w_75_0, w_75_1, w_75_2, w_75_3, w_75_4, w_75_5, w_75_6, w_75_7, w_75_8, w_75_9, w_75_10, w_75_11, w_75_12, w_75_13, w_75_14, w_75_15, w_75_16, w_75_17, w_75_18, w_75_19, w_75_20, w_75_21, w_75_22, w_75_23, w_75_24, w_75_25, w_75_26, w_75_27, w_75_28, w_75_29, w_75_30, w_75_31, w_75_32, w_75_33, w_75_34, w_75_35, w_75_36, w_75_37, w_75_38, w_75_39, w_75_40, w_75_41, w_75_42, w_75_43, w_75_44, w_75_45, getK, putK, ialK, iasK, aalK, aasK, alnK, zgt_u, zgt_a, Option.toList_some, Option.toList_none, List.cons_append, List.nil_append, List.map_cons, List.map_nil, List.replicate, ite_true, ite_false, if_true, if_false, List.getElem?_cons_zero, List.getElem?_cons_succ, List.set_cons_zero, List.set_cons_succ, true_and, and_true, beq_self_eq_true, zite, Int.toNat_natCast, if_pos, if_neg, zwr_id, zand, c0, s_isGroup5, zb_eq, zb_ne, h0, not_false_eq_true]
    exact hQ h (rC_c hC) frC_rf
end
