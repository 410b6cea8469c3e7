/-! DIGITS OF CODES -/
def ndN (n : Nat) : Nat := if h : n = 0 then 0 else ndN (n / 10) + 1
termination_by n
decreasing_by omega
def nd (c : Int) : Int := (ndN c.toNat : Int)
theorem nd_0 {c : Int} (h : c ≤ 0) : nd c = 0 := by
  unfold nd
  rw [show c.toNat = 0 by omega, ndN]
  rfl
theorem nd_p {c : Int} (h : 0 < c) : nd c = nd (c / 10) + 1 := by
  unfold nd
  rw [ndN, dif_neg (show ¬ c.toNat = 0 by omega)]
  rw [show c.toNat / 10 = (c / 10).toNat by omega]
  rfl
theorem nd_nn (c : Int) : 0 ≤ nd c := by unfold nd; omega
theorem nd_pos {c : Int} (h : 0 < c) : 0 < nd c := by have := nd_nn (c / 10); rw [nd_p h]; omega
/-- the powers of ten -/
def tp : Nat → Int
  | 0 => 1
  | n + 1 => 10 * tp n
theorem tp_pos (n : Nat) : 0 < tp n := by induction n with | zero => decide | succ n ih => unfold tp; omega
theorem nd_lt : ∀ (n : Nat) (c : Int), c < tp n → nd c ≤ n := by
  intro n
  induction n with
  | zero => intro c h; unfold tp at h; rw [nd_0 (by omega)]; exact Int.le_refl _
  | succ n ih =>
    intro c h
    by_cases hp : 0 < c
    · unfold tp at h
      rw [nd_p hp]
      have := ih (c / 10) (by omega)
      omega
    · rw [nd_0 (by omega)]; omega
theorem nd_ge : ∀ (n : Nat) (c : Int), tp n ≤ c → (n : Int) + 1 ≤ nd c := by
  intro n
  induction n with
  | zero => intro c h; unfold tp at h; have := nd_pos (c := c) (by omega); omega
  | succ n ih =>
    intro c h
    unfold tp at h
    have h0 := tp_pos n
    rw [nd_p (by omega)]
    have := ih (c / 10) (by omega)
    omega
theorem nd_6 {c : Int} (h : c ≤ 999999) : nd c ≤ 6 := nd_lt 6 c (by show c < 10 * (10 * (10 * (10 * (10 * (10 * 1))))); omega)
theorem nd_10 {c : Int} (h : c ≤ 2147483647) : nd c ≤ 10 := nd_lt 10 c (by show c < 10 * (10 * (10 * (10 * (10 * (10 * (10 * (10 * (10 * (10 * 1))))))))); omega)
/-- a word's code -/
def dgN (n : Nat) : Bool := if h : n = 0 then true else decide (1 ≤ n % 10 ∧ n % 10 ≤ 4) && dgN (n / 10)
termination_by n
decreasing_by omega
def dg (c : Int) : Bool := dgN c.toNat
theorem dg_0 {c : Int} (h : c ≤ 0) : dg c = true := by
  unfold dg
  rw [show c.toNat = 0 by omega, dgN]
  rfl
theorem dg_p {c : Int} (h : 0 < c) : dg c = (decide (1 ≤ c % 10 ∧ c % 10 ≤ 4) && dg (c / 10)) := by
  unfold dg
  rw [dgN, dif_neg (show ¬ c.toNat = 0 by omega), show c.toNat / 10 = (c / 10).toNat by omega]
  congr 1
  rw [decide_eq_decide]
  omega
abbrev wd (c : Int) : Prop := 1 ≤ c ∧ c ≤ 444444 ∧ dg c = true
theorem wd_nd {c : Int} (h : wd c) : 1 ≤ nd c ∧ nd c ≤ 6 := ⟨nd_pos (by unfold wd at h; omega), nd_6 (by unfold wd at h; omega)⟩
section
variable {sc : Nat × (Int → Int)} {h : zH} {Q : Option zV → zH → Prop}
theorem lp_lettersOf5 (l0 : Option zV) : ∀ (k : Nat) (c n : Int), c.toNat ≤ k → 0 ≤ n → n + nd c ≤ 1000 → zwp sc 86 4 [l0, some (.inl n), some (.inl c)] [] h Q = Q (some (.inl (n + nd c))) h := by
  intro k
  induction k with
  | zero =>
    intro c n hc hn hb
    rw [nd_0 (by omega), w_86_4]
    simp (disch := omega) only [e_86, w_86_0, w_86_1, w_86_2, w_86_3, w_86_5, w_86_6, w_86_7, w_86_8, w_86_9, w_86_10, w_86_11, w_86_12, w_86_13, getK, putK, ialK, iasK, aalK, aasK, alnK, zgt_u, zgt_a, Option.toList_some, Option.toList_none, List.cons_append, List.nil_append, List.map_cons, List.map_nil, List.replicate, ite_true, ite_false, if_true, if_false, List.getElem?_cons_zero, List.getElem?_cons_succ, List.set_cons_zero, List.set_cons_succ, true_and, and_true, beq_self_eq_true, zite, Int.toNat_natCast, if_pos, if_neg, zwr_id, zand, Int.add_zero]
  | succ k ih =>
    intro c n hc hn hb
    by_cases hp : 0 < c
    · rw [w_86_4]
      rw [nd_p hp] at hb ⊢
      have h3 := nd_nn (c / 10)
      simp (disch := omega) only [e_86, w_86_0, w_86_1, w_86_2, w_86_3, w_86_5, w_86_6, w_86_7, w_86_8, w_86_9, w_86_10, w_86_11, w_86_12, w_86_13, getK, putK, ialK, iasK, aalK, aasK, alnK, zgt_u, zgt_a, Option.toList_some, Option.toList_none, List.cons_append, List.nil_append, List.map_cons, List.map_nil, List.replicate, ite_true, ite_false, if_true, if_false, List.getElem?_cons_zero, List.getElem?_cons_succ, List.set_cons_zero, List.set_cons_succ, true_and, and_true, beq_self_eq_true, zite, Int.toNat_natCast, if_pos, if_neg, zwr_id, zand, ih]
      rw [show n + (nd (c / 10) + 1) = n + 1 + nd (c / 10) by omega]
    · rw [nd_0 (by omega), w_86_4]
      simp (disch := omega) only [e_86, w_86_0, w_86_1, w_86_2, w_86_3, w_86_5, w_86_6, w_86_7, w_86_8, w_86_9, w_86_10, w_86_11, w_86_12, w_86_13, getK, putK, ialK, iasK, aalK, aasK, alnK, zgt_u, zgt_a, Option.toList_some, Option.toList_none, List.cons_append, List.nil_append, List.map_cons, List.map_nil, List.replicate, ite_true, ite_false, if_true, if_false, List.getElem?_cons_zero, List.getElem?_cons_succ, List.set_cons_zero, List.set_cons_succ, true_and, and_true, beq_self_eq_true, zite, Int.toNat_natCast, if_pos, if_neg, zwr_id, zand, Int.add_zero]
theorem s_lettersOf5 {c : Int} (hc : c ≤ 2147483647) : zca sc 86 [.inl c] h Q = Q (some (.inl (nd c))) h := by
  have := nd_10 hc
  simp (disch := omega) only [e_86, w_86_0, w_86_1, w_86_2, w_86_3, w_86_5, w_86_6, w_86_7, w_86_8, w_86_9, w_86_10, w_86_11, w_86_12, w_86_13, getK, putK, ialK, iasK, aalK, aasK, alnK, zgt_u, zgt_a, Option.toList_some, Option.toList_none, List.cons_append, List.nil_append, List.map_cons, List.map_nil, List.replicate, ite_true, ite_false, if_true, if_false, List.getElem?_cons_zero, List.getElem?_cons_succ, List.set_cons_zero, List.set_cons_succ, true_and, and_true, beq_self_eq_true, zite, Int.toNat_natCast, if_pos, if_neg, zwr_id, zand]
  rw [lp_lettersOf5 _ c.toNat c 0 (Nat.le_refl _) (by omega) (by omega), Int.zero_add]
end
