/-! THE NODES OF A GROUP -/
def vc (c : Int) : Prop := 0 ≤ c ∧ c ≤ 444444 ∧ dg c = true
theorem vc_0 : vc 0 := ⟨by omega, by omega, dg_0 (by omega)⟩
theorem vc_wd {c : Int} (h : wd c) : vc c := ⟨by unfold wd at h; omega, h.2.1, h.2.2⟩
theorem wd_vc {c : Int} (h : vc c) (h0 : 0 < c) : wd c := ⟨by omega, h.2.1, h.2.2⟩
theorem vc_div {c : Int} (h : vc c) : vc (c / 10) := by
  obtain ⟨h0, h1, h2⟩ := h
  by_cases hp : 0 < c
  · rw [dg_p hp] at h2
    simp only [Bool.and_eq_true] at h2
    exact ⟨by omega, by omega, h2.2⟩
  · exact ⟨by omega, by omega, dg_0 (by omega)⟩
/-- words numbered -/
def nuN (n : Nat) : Nat := if h : n = 0 then 0 else n % 10 + 4 * nuN (n / 10)
termination_by n
decreasing_by omega
def nu (c : Int) : Int := (nuN c.toNat : Int)
theorem nu_0 {c : Int} (h : c ≤ 0) : nu c = 0 := by
  unfold nu
  rw [show c.toNat = 0 by omega, nuN]
  rfl
theorem nu_p {c : Int} (h : 0 < c) : nu c = c % 10 + 4 * nu (c / 10) := by
  unfold nu
  rw [nuN, dif_neg (show ¬ c.toNat = 0 by omega), show c.toNat / 10 = (c / 10).toNat by omega]
  omega
theorem nu_nn (c : Int) : 0 ≤ nu c := by unfold nu; omega
theorem nu_inj : ∀ (k : Nat) (c d : Int), c.toNat ≤ k → 0 ≤ c → 0 ≤ d → dg c = true → dg d = true → nu c = nu d → c = d := by
  intro k
  induction k with
  | zero =>
    intro c d hk hc hd h1 h2 he
    have : c = 0 := by omega
    subst this
    by_cases hp : 0 < d
    · rw [nu_0 (Int.le_refl _), nu_p hp] at he
      rw [dg_p hp] at h2
      simp only [Bool.and_eq_true, decide_eq_true_eq] at h2
      have := nu_nn (d / 10)
      omega
    · omega
  | succ k ih =>
    intro c d hk hc hd h1 h2 he
    by_cases hp : 0 < c
    · rw [dg_p hp] at h1
      simp only [Bool.and_eq_true, decide_eq_true_eq] at h1
      have n1 := nu_nn (c / 10)
      by_cases hq : 0 < d
      · rw [dg_p hq] at h2
        simp only [Bool.and_eq_true, decide_eq_true_eq] at h2
        rw [nu_p hp, nu_p hq] at he
        have n2 := nu_nn (d / 10)
        have := ih (c / 10) (d / 10) (by omega) (by omega) (by omega) h1.2 h2.2 (by omega)
        omega
      · rw [nu_p hp, nu_0 (show d ≤ 0 by omega)] at he
        omega
    · by_cases hq : 0 < d
      · rw [dg_p hq] at h2
        simp only [Bool.and_eq_true, decide_eq_true_eq] at h2
        have n2 := nu_nn (d / 10)
        rw [nu_0 (show c ≤ 0 by omega), nu_p hq] at he
        omega
      · omega
def bq : Nat → Int
  | 0 => 0
  | n + 1 => 4 + 4 * bq n
theorem nu_b : ∀ (n : Nat) (c : Int), dg c = true → c < tp n → nu c ≤ bq n
  | 0, c, _, h => by unfold tp at h; rw [nu_0 (by omega)]; exact Int.le_refl _
  | n + 1, c, hd, h => by
    by_cases hp : 0 < c
    · rw [dg_p hp] at hd
      simp only [Bool.and_eq_true, decide_eq_true_eq] at hd
      unfold tp at h
      have := nu_b n (c / 10) hd.2 (by omega)
      rw [nu_p hp]
      unfold bq
      omega
    · rw [nu_0 (by omega)]
      have : ∀ n, 0 ≤ bq n := by intro n; induction n with | zero => decide | succ n ih => unfold bq; omega
      exact this (n + 1)
theorem nu_lt {c : Int} (h : vc c) : 0 ≤ nu c ∧ nu c < 5461 := by
  have := nu_b 6 c h.2.2 (by show c < 10 * (10 * (10 * (10 * (10 * (10 * 1))))); have := h.2.1; omega)
  have e : bq 6 = 5460 := by decide
  have := nu_nn c
  omega
/-- beginnings of a word, the empty one included -/
def pf (c : Int) : Nat → Int → Prop
  | 0, w => c = w
  | k + 1, w => c = w ∨ pf c k (w / 10)
def rNs (h : zH) (b : Nat) (rd : Int) (N : List Int) : Prop := ∃ R C, rNo h b rd N.length R C ∧ (∀ (i : Nat) (c : Int), N[i]? = some c → C i = c) ∧ (∀ c, vc c → (R (nu c) = rd ↔ c ∈ N)) ∧ (∀ i, R i ≤ rd) ∧ N.Nodup ∧ ∀ c ∈ N, vc c
section
variable {sc : Nat × (Int → Int)} {h : zH} {Q : Option zV → zH → Prop} {b : Nat} {rd : Int} {N : List Int}
theorem rNs_rc {as : List zV} (hN : rNs h b rd N) : zrecv h 3 (.inr (.inl (some b)) :: as) = true := by
  obtain ⟨R, C, h0, -⟩ := hN
  exact zrc h0.1
theorem lp_numberOf (l0 : Option zV) : ∀ (k : Nat) (c n p q : Int), c < tp k → (k = 0 ∨ (k = 1 ∧ p = 1024) ∨ (k = 2 ∧ p = 256) ∨ (k = 3 ∧ p = 64) ∨ (k = 4 ∧ p = 16) ∨ (k = 5 ∧ p = 4) ∨ (k = 6 ∧ p = 1)) → 0 ≤ c → 0 ≤ n → n ≤ 3 * p → p ≤ 4096 → dg c = true → q = n + p * nu c → zwp sc 41 6 [l0, some (.inl n), some (.inl p), some (.inl c)] [] h Q = Q (some (.inl q)) h := by
  intro k
  induction k with
  | zero =>
    intro c n p q hc hk h0 hn hn2 hp hd he
    unfold tp at hc
    rw [nu_0 (by omega)] at he
    rw [show q = n by omega, w_41_6]
    simp (disch := omega) only [e_41, w_41_0, w_41_1, w_41_2, w_41_3, w_41_4, w_41_5, w_41_7, w_41_8, w_41_9, w_41_10, w_41_11, w_41_12, w_41_13, w_41_14, w_41_15, w_41_16, w_41_17, w_41_18, w_41_19, w_41_20, w_41_21, w_41_22, w_41_23, w_41_24, w_41_25, w_41_26, getK, putK, ialK, iasK, aalK, aasK, alnK, zgt_u, zgt_a, Option.toList_some, Option.toList_none, List.cons_append, List.nil_append, List.map_cons, List.map_nil, List.replicate, ite_true, ite_false, if_true, if_false, List.getElem?_cons_zero, List.getElem?_cons_succ, List.set_cons_zero, List.set_cons_succ, true_and, and_true, beq_self_eq_true, zite, Int.toNat_natCast, if_pos, if_neg, zwr_id, zand]
  | succ k ih =>
    intro c n p q hc hk h0 hn hn2 hp hd he
    by_cases hpos : 0 < c
    · unfold tp at hc
      rw [nu_p hpos, Int.mul_add] at he
      rw [dg_p hpos] at hd
      simp only [Bool.and_eq_true, decide_eq_true_eq] at hd
      obtain ⟨⟨d1, d2⟩, d3⟩ := hd
      have e1 : c % 10 * p = p * (c % 10) := Int.mul_comm _ _
      have e2 : p * 4 = 4 * p := by omega
      have e3 : p * (4 * nu (c / 10)) = 4 * p * nu (c / 10) := by rw [← Int.mul_assoc, e2]
      have hp0 : 0 ≤ p := by omega
      have b1 : 0 ≤ p * (c % 10) := Int.mul_nonneg hp0 (by omega)
      have b2 : p * (c % 10) ≤ p * 4 := Int.mul_le_mul_of_nonneg_left d2 hp0
      have hp3 : p ≤ 1024 := by omega
      rw [w_41_6]
      simp (disch := omega) only [e_41, w_41_0, w_41_1, w_41_2, w_41_3, w_41_4, w_41_5, w_41_7, w_41_8, w_41_9, w_41_10, w_41_11, w_41_12, w_41_13, w_41_14, w_41_15, w_41_16, w_41_17, w_41_18, w_41_19, w_41_20, w_41_21, w_41_22, w_41_23, w_41_24, w_41_25, w_41_26, getK, putK, ialK, iasK, aalK, aasK, alnK, zgt_u, zgt_a, Option.toList_some, Option.toList_none, List.cons_append, List.nil_append, List.map_cons, List.map_nil, List.replicate, ite_true, ite_false, if_true, if_false, List.getElem?_cons_zero, List.getElem?_cons_succ, List.set_cons_zero, List.set_cons_succ, true_and, and_true, beq_self_eq_true, zite, Int.toNat_natCast, if_pos, if_neg, zwr_id, zand, e1, e2]
      exact ih (c / 10) _ _ q (by omega) (by omega) (by omega) (by omega) (by omega) (by omega) d3 (by omega)
    · rw [nu_0 (by omega)] at he
      rw [show q = n by omega, w_41_6]
      simp (disch := omega) only [e_41, w_41_0, w_41_1, w_41_2, w_41_3, w_41_4, w_41_5, w_41_7, w_41_8, w_41_9, w_41_10, w_41_11, w_41_12, w_41_13, w_41_14, w_41_15, w_41_16, w_41_17, w_41_18, w_41_19, w_41_20, w_41_21, w_41_22, w_41_23, w_41_24, w_41_25, w_41_26, getK, putK, ialK, iasK, aalK, aasK, alnK, zgt_u, zgt_a, Option.toList_some, Option.toList_none, List.cons_append, List.nil_append, List.map_cons, List.map_nil, List.replicate, ite_true, ite_false, if_true, if_false, List.getElem?_cons_zero, List.getElem?_cons_succ, List.set_cons_zero, List.set_cons_succ, true_and, and_true, beq_self_eq_true, zite, Int.toNat_natCast, if_pos, if_neg, zwr_id, zand]
theorem s_numberOf {c : Int} (hc : vc c) : zca sc 41 [.inl c] h Q = Q (some (.inl (nu c))) h := by
  have h1 := hc.1
  have h2 := hc.2.1
  simp (disch := omega) only [e_41, w_41_0, w_41_1, w_41_2, w_41_3, w_41_4, w_41_5, w_41_7, w_41_8, w_41_9, w_41_10, w_41_11, w_41_12, w_41_13, w_41_14, w_41_15, w_41_16, w_41_17, w_41_18, w_41_19, w_41_20, w_41_21, w_41_22, w_41_23, w_41_24, w_41_25, w_41_26, getK, putK, ialK, iasK, aalK, aasK, alnK, zgt_u, zgt_a, Option.toList_some, Option.toList_none, List.cons_append, List.nil_append, List.map_cons, List.map_nil, List.replicate, ite_true, ite_false, if_true, if_false, List.getElem?_cons_zero, List.getElem?_cons_succ, List.set_cons_zero, List.set_cons_succ, true_and, and_true, beq_self_eq_true, zite, Int.toNat_natCast, if_pos, if_neg, zwr_id, zand]
  exact lp_numberOf _ 6 c 0 1 _ (by show c < 10 * (10 * (10 * (10 * (10 * (10 * 1))))); omega) (by omega) h1 (by omega) (by omega) (by omega) hc.2.2 (by omega)
theorem s_has {c : Int} (hN : rNs h b rd N) (hc : vc c) [Decidable (c ∈ N)] : zca sc 36 [.inr (.inl (some b)), .inl c] h Q = Q (some (.inl (zb (c ∈ N)))) h := by
  obtain ⟨R, C, ⟨g0, g1, g2⟩, a1, a2, a3, a4, a5⟩ := hN
  have hb := nu_lt hc
  have ha := a2 c hc
  by_cases hm : c ∈ N
  · rw [zb_t hm]
    have ha := ha.mpr hm
    simp (disch := omega) only [e_36, w_36_0, w_36_1, w_36_2, w_36_3, w_36_4, w_36_5, w_36_6, w_36_7, w_36_8, w_36_9, w_36_10, w_36_11, w_36_12, w_36_13, w_36_14, w_36_15, w_36_16, w_36_17, w_36_18, getK, putK, ialK, iasK, aalK, aasK, alnK, zgt_u, zgt_a, Option.toList_some, Option.toList_none, List.cons_append, List.nil_append, List.map_cons, List.map_nil, List.replicate, ite_true, ite_false, if_true, if_false, List.getElem?_cons_zero, List.getElem?_cons_succ, List.set_cons_zero, List.set_cons_succ, true_and, and_true, beq_self_eq_true, zite, Int.toNat_natCast, if_pos, if_neg, zwr_id, zand, g0, g1, g2, s_numberOf hc, ha, true_or, or_true]
  · rw [zb_f hm]
    have ha : ¬ R (nu c) = rd := fun q => hm (ha.mp q)
    simp (disch := omega) only [e_36, w_36_0, w_36_1, w_36_2, w_36_3, w_36_4, w_36_5, w_36_6, w_36_7, w_36_8, w_36_9, w_36_10, w_36_11, w_36_12, w_36_13, w_36_14, w_36_15, w_36_16, w_36_17, w_36_18, getK, putK, ialK, iasK, aalK, aasK, alnK, zgt_u, zgt_a, Option.toList_some, Option.toList_none, List.cons_append, List.nil_append, List.map_cons, List.map_nil, List.replicate, ite_true, ite_false, if_true, if_false, List.getElem?_cons_zero, List.getElem?_cons_succ, List.set_cons_zero, List.set_cons_succ, true_and, and_true, beq_self_eq_true, zite, Int.toNat_natCast, if_pos, if_neg, zwr_id, zand, g0, g1, g2, s_numberOf hc, ha, true_or, or_true]
theorem s_nadd {c : Int} (hN : rNs h b rd N) (hc : vc c) (hn : c ∉ N) (hl : N.length < 289) (hQ : ∀ h', rNs h' b rd (N ++ [c]) → fr h h' b 3 → Q none h') : zca sc 40 [.inr (.inl (some b)), .inl c] h Q := by
  obtain ⟨R, C, ⟨g0, g1, g2⟩, a1, a2, a3, a4, a5⟩ := hN
  have hb := nu_lt hc
  simp (disch := omega) only [e_40, w_40_0, w_40_1, w_40_2, w_40_3, w_40_4, w_40_5, w_40_6, w_40_7, w_40_8, w_40_9, w_40_10, w_40_11, w_40_12, w_40_13, w_40_14, w_40_15, w_40_16, w_40_17, w_40_18, w_40_19, w_40_20, w_40_21, w_40_22, w_40_23, w_40_24, w_40_25, w_40_26, w_40_27, w_40_28, w_40_29, w_40_30, w_40_31, w_40_32, w_40_33, getK, putK, ialK, iasK, aalK, aasK, alnK, zgt_u, zgt_a, Option.toList_some, Option.toList_none, List.cons_append, List.nil_append, List.map_cons, List.map_nil, List.replicate, ite_true, ite_false, if_true, if_false, List.getElem?_cons_zero, List.getElem?_cons_succ, List.set_cons_zero, List.set_cons_succ, true_and, and_true, beq_self_eq_true, zite, Int.toNat_natCast, if_pos, if_neg, zwr_id, zand, g0, g1, g2, s_numberOf hc, Nat.add_left_cancel_iff, Nat.reduceEqDiff, Nat.left_eq_add, Nat.add_eq_left]
  generalize hh : zuH _ b _ = h1
  have hf1 : fr h h1 b 3 := by rw [← hh]; exact fr_u (fr_u (fr_u fr_rf (by omega) (by omega)) (by omega) (by omega)) (by omega) (by omega)
  refine hQ h1 ⟨zup R (nu c) rd, zup C N.length c, ⟨?_, ?_, ?_⟩, fun i d hi => ?_, fun d hd => ?_, fun i => ?_, ?_, fun d hd => ?_⟩ hf1
  · rw [← hh]
    simp (disch := omega) only [zgt_u, zgt_a, if_pos, if_neg, if_true, if_false, ite_true, ite_false]
    simp
  · rw [← hh]
    simp (disch := omega) only [zgt_u, zgt_a, if_pos, if_neg, if_true, if_false, ite_true, ite_false]
  · rw [← hh]
    simp (disch := omega) only [zgt_u, zgt_a, if_pos, if_neg, if_true, if_false, ite_true, ite_false]
  · by_cases hi2 : i < N.length
    · rw [List.getElem?_append_left hi2] at hi
      rw [zup_n (by omega)]
      exact a1 i d hi
    · rw [List.getElem?_append_right (by omega)] at hi
      have : i - N.length < 1 := (List.getElem?_eq_some_iff.mp hi).1
      rw [show i - N.length = 0 by omega] at hi
      cases hi
      rw [show (i : Int) = (N.length : Int) by omega, zup_s]
  · rw [List.mem_append, List.mem_singleton]
    by_cases hnd : nu d = nu c
    · have := nu_inj _ d c (Nat.le_refl _) hd.1 hc.1 hd.2.2 hc.2.2 hnd
      subst this
      rw [zup_s]
      simp
    · rw [zup_n hnd, a2 d hd]
      constructor
      · exact Or.inl
      · rintro (q | q)
        · exact q
        · exact absurd (by rw [q]) hnd
  · by_cases hi : i = nu c
    · rw [hi, zup_s]; exact Int.le_refl _
    · rw [zup_n hi]; exact a3 i
  · rw [List.nodup_append]
    exact ⟨a4, by simp, fun x hx y hy => by rw [List.mem_singleton.mp hy]; exact fun q => hn (q ▸ hx)⟩
  · rcases List.mem_append.mp hd with q | q
    · exact a5 d q
    · rw [List.mem_singleton.mp q]; exact hc
end
