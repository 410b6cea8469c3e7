/-! A DICTIONARY: live words, the families' items, costs, rebuildings -/
abbrev zDt : Type := List zI × List zI × List zI × Int × Int
def srtL (L : List zI) : Prop := (∀ x ∈ L, x.1 = 0) ∧ L.Pairwise (fun a b => a.2.1 < b.2.1)
def okDt (S : zDt) : Prop := okIs S.1 ∧ okIs S.2.1 ∧ okIs S.2.2.1 ∧ srtL S.1 ∧ S.1.length ≤ 24 ∧ S.2.1.length = S.1.length + S.2.2.1.length ∧ 2 * S.2.2.1.length ≤ S.2.1.length ∧ gOK S.2.1 ∧ gOK S.2.2.1 ∧ inR S.2.2.2.1 ∧ inR S.2.2.2.2
def insL (x : zI) : List zI → List zI
  | [] => [x]
  | y :: L => if y.2.1 < x.2.1 then y :: insL x L else x :: y :: L
theorem insL_perm (x : zI) : ∀ L, (insL x L).Perm (x :: L)
  | [] => List.Perm.refl _
  | y :: L => by
    unfold insL
    split
    · exact (List.Perm.cons y (insL_perm x L)).trans (List.Perm.swap x y L)
    · exact List.Perm.refl _
theorem insL_srt {x : zI} (hx : x.1 = 0) : ∀ {L}, srtL L → (∀ y ∈ L, y.2.1 ≠ x.2.1) → srtL (insL x L)
  | [], _, _ => ⟨by simp [insL, hx], by simp [insL]⟩
  | y :: L, h, hn => by
    obtain ⟨h1, h2⟩ := h
    obtain ⟨a1, a2⟩ := List.pairwise_cons.mp h2
    have ih := insL_srt hx (L := L) ⟨fun z hz => h1 z (by simp [hz]), a2⟩ (fun z hz => hn z (by simp [hz]))
    have hyx := hn y (by simp)
    have hall : ∀ z ∈ insL x (y :: L), z.1 = 0 := by
      intro z hz
      rcases List.mem_cons.mp ((insL_perm x (y :: L)).mem_iff.mp hz) with rfl | hz
      · exact hx
      · exact h1 z hz
    refine ⟨hall, ?_⟩
    unfold insL
    split
    · refine List.pairwise_cons.mpr ⟨fun z hz => ?_, ih.2⟩
      rcases List.mem_cons.mp ((insL_perm x L).mem_iff.mp hz) with rfl | hz
      · assumption
      · exact a1 z hz
    · refine List.pairwise_cons.mpr ⟨fun z hz => ?_, h2⟩
      rcases List.mem_cons.mp hz with rfl | hz
      · omega
      · have := a1 z hz; omega
theorem srtL_I {L : List zI} (h : srtL L) : srtI L := by
  refine List.Pairwise.imp_of_mem (fun {a b} ha hb hab => ?_) h.2
  have h1 := h.1 a ha
  have h2 := h.1 b hb
  unfold ltI
  omega
/-- the least group for so many items -/
def lgf (n : Int) : Int := if n ≤ 1 then 0 else if n ≤ 2 then 1 else if n ≤ 4 then 2 else if n ≤ 8 then 3 else if n ≤ 16 then 4 else if n ≤ 32 then 5 else 6
def entS (S : zDt) (c w : Int) : zDt := (insL (0, c, w) S.1, ptM S.2.1 c w, S.2.2.1, zwr (S.2.2.2.1 + lti (lgM S.2.1) (ptM S.2.1 c w)), S.2.2.2.2)
def renS (S : zDt) : zDt := (S.1, S.1.map (fun x => (lgf S.1.length, x.2)), [], zwr (S.2.2.2.1 + lti (lgf S.1.length) (S.1.map (fun x => (lgf S.1.length, x.2)))), zwr (S.2.2.2.2 + 1))
/-- the word at the place k taken away, before a rebuilding -/
def drp (S : zDt) (k : Nat) (x : zI) : zDt := (S.1.eraseIdx k, S.2.1, ptM S.2.2.1 x.2.1 x.2.2, zwr (S.2.2.2.1 + lti (lgM S.2.2.1) (ptM S.2.2.1 x.2.1 x.2.2)), S.2.2.2.2)
def droS (S : zDt) (k : Nat) (x : zI) : zDt := if 2 * (S.2.2.1.length + 1) ≤ S.2.1.length then drp S k x else renS (drp S k x)
def droR (S : zDt) (k : Nat) : Int := if 2 * (S.2.2.1.length + 1) ≤ S.2.1.length then lgM S.2.2.1 else if S.1.length = 1 then 20 else 10 + lgf (S.1.length - 1 : Int)
theorem len_eraseIdx {α : Type} {L : List α} {k : Nat} (h : k < L.length) : (L.eraseIdx k).length + 1 = L.length := by
  rw [List.length_eraseIdx_of_lt h]; omega
theorem lgf_b {n : Int} : 0 ≤ lgf n ∧ lgf n ≤ 6 := by unfold lgf; (repeat' split) <;> omega
theorem cti_map {g j : Int} : ∀ {L : List zI}, cti j (L.map (fun x => (g, x.2))) = if g = j then (L.length : Int) else 0
  | [] => by simp [cti]
  | x :: L => by
    rw [List.map_cons]
    unfold cti
    rw [cti_map]
    simp only [List.length_cons]
    split <;> omega
theorem okIs_map {g : Int} {L : List zI} (hg : 0 ≤ g ∧ g ≤ 6) (h : okIs L) : okIs (L.map (fun x => (g, x.2))) := by
  intro x hx
  obtain ⟨y, hy, rfl⟩ := List.mem_map.mp hx
  exact ⟨hg.1, hg.2, (h y hy).2.2⟩
theorem gOK_map {L : List zI} (hl : L.length ≤ 24) : gOK (L.map (fun x => (lgf L.length, x.2))) := by
  unfold gOK
  simp only [cti_map]
  unfold lgf
  (repeat' split) <;> omega
theorem gOK_nil : gOK [] := by unfold gOK cti; omega
theorem renS_ok {S : zDt} (h1 : okIs S.1) (h2 : srtL S.1) (h3 : S.1.length ≤ 24) : okDt (renS S) := by
  refine ⟨h1, okIs_map lgf_b h1, (fun x hx => (by cases hx)), h2, h3, by simp [renS], by simp [renS], gOK_map h3, gOK_nil, inR_wr _, inR_wr _⟩
theorem okIs_sub {L L' : List zI} (h : okIs L) (hs : ∀ x ∈ L', x ∈ L) : okIs L' := fun x hx => h x (hs x hx)
theorem droS_ok {S : zDt} {k : Nat} {x : zI} (h : okDt S) (hx : S.1[k]? = some x) : okDt (droS S k x) := by
  obtain ⟨a1, a2, a3, a4, a5, a6, a7, a8, a9, a10, a11⟩ := h
  have hk := (List.getElem?_eq_some_iff.mp hx).1
  have hox := a1 x (List.mem_of_getElem? hx)
  have hsub : ∀ y ∈ S.1.eraseIdx k, y ∈ S.1 := fun y hy => (List.eraseIdx_sublist _ _).mem hy
  have e1 := len_eraseIdx hk
  have hso : srtL (S.1.eraseIdx k) := ⟨fun y hy => a4.1 y (hsub y hy), a4.2.sublist (List.eraseIdx_sublist _ _)⟩
  unfold droS
  split
  next hc =>
    obtain ⟨p1, p2, p3⟩ := ptM_ok a3 a9 (by omega) hox.2.2.1 hox.2.2.2
    exact ⟨okIs_sub a1 hsub, a2, p1, hso, by show (S.1.eraseIdx k).length ≤ 24; omega, by show S.2.1.length = (S.1.eraseIdx k).length + (ptM _ _ _).length; omega, by show 2 * (ptM _ _ _).length ≤ S.2.1.length; omega, a8, p2, inR_wr _, a11⟩
  next hc => exact renS_ok (okIs_sub a1 hsub) hso (by show (S.1.eraseIdx k).length ≤ 24; omega)
theorem entS_ok {S : zDt} {c w : Int} (h : okDt S) (hl : S.1.length < 24) (hc : wd c) (hw : -99 ≤ w ∧ w ≤ 99) (hn : ∀ y ∈ S.1, y.2.1 ≠ c) : okDt (entS S c w) := by
  obtain ⟨a1, a2, a3, a4, a5, a6, a7, a8, a9, a10, a11⟩ := h
  obtain ⟨p1, p2, p3⟩ := ptM_ok a2 a8 (by omega) hc hw
  have hp := insL_perm (0, c, w) S.1
  have hlen := hp.length_eq
  simp only [List.length_cons] at hlen
  refine ⟨okIs_perm hp.symm (okIs_c.mpr ⟨⟨Int.le_refl _, (by show (0 : Int) ≤ 6; omega), hc, hw.1, hw.2⟩, a1⟩), p1, a3, insL_srt rfl a4 hn, by show (insL _ _).length ≤ 24; omega, by show (ptM _ _ _).length = (insL _ _).length + S.2.2.1.length; omega, by show 2 * S.2.2.1.length ≤ (ptM _ _ _).length; omega, p2, a9, inR_wr _, a11⟩
/-- a family in the class: in order -/
def rFa (h : zH) (b : Nat) (M : List zI) : Prop := ∃ L, rIt h b L ∧ srtI L ∧ L.Perm M
def rDt (h : zH) (b : Nat) (S : zDt) : Prop := zgt h b = .inl (0, [.inr (.inl (some (b + 1))), .inr (.inl (some (b + 5))), .inr (.inl (some (b + 9))), .inl S.2.2.2.1, .inl S.2.2.2.2]) ∧ rIt h (b + 1) S.1 ∧ rFa h (b + 5) S.2.1 ∧ rFa h (b + 9) S.2.2.1
theorem rFa_fr {h h' : zH} {b n b2 : Nat} {M : List zI} (hI : rFa h b M) (hf : fr h h' b2 n) (hd : b + 4 ≤ b2 ∨ b2 + n ≤ b) : rFa h' b M := by
  obtain ⟨L, a1, a2, a3⟩ := hI
  exact ⟨L, rIt_fr a1 hf hd, a2, a3⟩
theorem rDt_fr {h h' : zH} {b n b2 : Nat} {S : zDt} (hI : rDt h b S) (hf : fr h h' b2 n) (hd : b + 13 ≤ b2 ∨ b2 + n ≤ b) : rDt h' b S :=
  ⟨by rw [hf.2.2 _ (by omega)]; exact hI.1, rIt_fr hI.2.1 hf (by omega), rFa_fr hI.2.2.1 hf (by omega), rFa_fr hI.2.2.2 hf (by omega)⟩
section
variable {sc : Nat × (Int → Int)} {h : zH} {Q : Option zV → zH → Prop} {b : Nat} {S : zDt}
theorem s_live (hD : rDt h b S) : zca sc 1 [.inr (.inl (some b))] h Q = Q (some (.inr (.inl (some (b + 1))))) h := by
  have h0 := hD.1
  simp (disch := omega) only [e_1, w_1_0, w_1_1, w_1_2, getK, putK, ialK, iasK, aalK, aasK, alnK, zgt_u, zgt_a, Option.toList_some, Option.toList_none, List.cons_append, List.nil_append, List.map_cons, List.map_nil, List.replicate, ite_true, ite_false, if_true, if_false, List.getElem?_cons_zero, List.getElem?_cons_succ, List.set_cons_zero, List.set_cons_succ, true_and, and_true, beq_self_eq_true, zite, Int.toNat_natCast, if_pos, if_neg, zwr_id, zand, h0]
theorem s_family0 (hD : rDt h b S) : zca sc 2 [.inr (.inl (some b)), .inl 0] h Q = Q (some (.inr (.inl (some (b + 5))))) h := by
  have h0 := hD.1
  simp (disch := omega) only [e_2, w_2_0, w_2_1, w_2_2, w_2_3, w_2_4, w_2_5, w_2_6, w_2_7, getK, putK, ialK, iasK, aalK, aasK, alnK, zgt_u, zgt_a, Option.toList_some, Option.toList_none, List.cons_append, List.nil_append, List.map_cons, List.map_nil, List.replicate, ite_true, ite_false, if_true, if_false, List.getElem?_cons_zero, List.getElem?_cons_succ, List.set_cons_zero, List.set_cons_succ, true_and, and_true, beq_self_eq_true, zite, Int.toNat_natCast, if_pos, if_neg, zwr_id, zand, h0]
theorem s_family1 (hD : rDt h b S) : zca sc 2 [.inr (.inl (some b)), .inl 1] h Q = Q (some (.inr (.inl (some (b + 9))))) h := by
  have h0 := hD.1
  simp (disch := omega) only [e_2, w_2_0, w_2_1, w_2_2, w_2_3, w_2_4, w_2_5, w_2_6, w_2_7, getK, putK, ialK, iasK, aalK, aasK, alnK, zgt_u, zgt_a, Option.toList_some, Option.toList_none, List.cons_append, List.nil_append, List.map_cons, List.map_nil, List.replicate, ite_true, ite_false, if_true, if_false, List.getElem?_cons_zero, List.getElem?_cons_succ, List.set_cons_zero, List.set_cons_succ, true_and, and_true, beq_self_eq_true, zite, Int.toNat_natCast, if_pos, if_neg, zwr_id, zand, h0]
theorem s_costs (hD : rDt h b S) : zca sc 3 [.inr (.inl (some b))] h Q = Q (some (.inl S.2.2.2.1)) h := by
  have h0 := hD.1
  simp (disch := omega) only [e_3, w_3_0, w_3_1, w_3_2, getK, putK, ialK, iasK, aalK, aasK, alnK, zgt_u, zgt_a, Option.toList_some, Option.toList_none, List.cons_append, List.nil_append, List.map_cons, List.map_nil, List.replicate, ite_true, ite_false, if_true, if_false, List.getElem?_cons_zero, List.getElem?_cons_succ, List.set_cons_zero, List.set_cons_succ, true_and, and_true, beq_self_eq_true, zite, Int.toNat_natCast, if_pos, if_neg, zwr_id, zand, h0]
theorem s_rebuildings (hD : rDt h b S) : zca sc 4 [.inr (.inl (some b))] h Q = Q (some (.inl S.2.2.2.2)) h := by
  have h0 := hD.1
  simp (disch := omega) only [e_4, w_4_0, w_4_1, w_4_2, getK, putK, ialK, iasK, aalK, aasK, alnK, zgt_u, zgt_a, Option.toList_some, Option.toList_none, List.cons_append, List.nil_append, List.map_cons, List.map_nil, List.replicate, ite_true, ite_false, if_true, if_false, List.getElem?_cons_zero, List.getElem?_cons_succ, List.set_cons_zero, List.set_cons_succ, true_and, and_true, beq_self_eq_true, zite, Int.toNat_natCast, if_pos, if_neg, zwr_id, zand, h0]
theorem rDt_rc {as : List zV} (hD : rDt h b S) : zrecv h 0 (.inr (.inl (some b)) :: as) = true := zrc hD.1
theorem lp_lgf (n : Int) (hn : n ≤ 48) : zca sc 9 [.inl n] h Q = Q (some (.inl (lgf n))) h := by
  simp (disch := omega) only [e_9, w_9_0, w_9_1, w_9_3, w_9_4, w_9_5, w_9_6, w_9_7, w_9_8, w_9_9, w_9_10, w_9_11, w_9_12, w_9_13, getK, putK, ialK, iasK, aalK, aasK, alnK, zgt_u, zgt_a, Option.toList_some, Option.toList_none, List.cons_append, List.nil_append, List.map_cons, List.map_nil, List.replicate, ite_true, ite_false, if_true, if_false, List.getElem?_cons_zero, List.getElem?_cons_succ, List.set_cons_zero, List.set_cons_succ, true_and, and_true, beq_self_eq_true, zite, Int.toNat_natCast, if_pos, if_neg, zwr_id, zand]
  have s0 : (Int32.ofInt 1 <<< (Int32.ofInt 0 &&& 31)).toInt = 1 := by decide
  have s1 : (Int32.ofInt 1 <<< (Int32.ofInt 1 &&& 31)).toInt = 2 := by decide
  have s2 : (Int32.ofInt 1 <<< (Int32.ofInt 2 &&& 31)).toInt = 4 := by decide
  have s3 : (Int32.ofInt 1 <<< (Int32.ofInt 3 &&& 31)).toInt = 8 := by decide
  have s4 : (Int32.ofInt 1 <<< (Int32.ofInt 4 &&& 31)).toInt = 16 := by decide
  have s5 : (Int32.ofInt 1 <<< (Int32.ofInt 5 &&& 31)).toInt = 32 := by decide
  unfold lgf
  by_cases c0 : n ≤ 1
  · rw [w_9_2]
    simp (disch := omega) only [e_9, w_9_0, w_9_1, w_9_3, w_9_4, w_9_5, w_9_6, w_9_7, w_9_8, w_9_9, w_9_10, w_9_11, w_9_12, w_9_13, getK, putK, ialK, iasK, aalK, aasK, alnK, zgt_u, zgt_a, Option.toList_some, Option.toList_none, List.cons_append, List.nil_append, List.map_cons, List.map_nil, List.replicate, ite_true, ite_false, if_true, if_false, List.getElem?_cons_zero, List.getElem?_cons_succ, List.set_cons_zero, List.set_cons_succ, true_and, and_true, beq_self_eq_true, zite, Int.toNat_natCast, if_pos, if_neg, zwr_id, zand, Int.reduceAdd, s0]
  by_cases c1 : n ≤ 2
  · rw [w_9_2]
    simp (disch := omega) only [e_9, w_9_0, w_9_1, w_9_3, w_9_4, w_9_5, w_9_6, w_9_7, w_9_8, w_9_9, w_9_10, w_9_11, w_9_12, w_9_13, getK, putK, ialK, iasK, aalK, aasK, alnK, zgt_u, zgt_a, Option.toList_some, Option.toList_none, List.cons_append, List.nil_append, List.map_cons, List.map_nil, List.replicate, ite_true, ite_false, if_true, if_false, List.getElem?_cons_zero, List.getElem?_cons_succ, List.set_cons_zero, List.set_cons_succ, true_and, and_true, beq_self_eq_true, zite, Int.toNat_natCast, if_pos, if_neg, zwr_id, zand, Int.reduceAdd, s0]
    rw [w_9_2]
    simp (disch := omega) only [e_9, w_9_0, w_9_1, w_9_3, w_9_4, w_9_5, w_9_6, w_9_7, w_9_8, w_9_9, w_9_10, w_9_11, w_9_12, w_9_13, getK, putK, ialK, iasK, aalK, aasK, alnK, zgt_u, zgt_a, Option.toList_some, Option.toList_none, List.cons_append, List.nil_append, List.map_cons, List.map_nil, List.replicate, ite_true, ite_false, if_true, if_false, List.getElem?_cons_zero, List.getElem?_cons_succ, List.set_cons_zero, List.set_cons_succ, true_and, and_true, beq_self_eq_true, zite, Int.toNat_natCast, if_pos, if_neg, zwr_id, zand, Int.reduceAdd, s1]
  by_cases c2 : n ≤ 4
  · rw [w_9_2]
    simp (disch := omega) only [e_9, w_9_0, w_9_1, w_9_3, w_9_4, w_9_5, w_9_6, w_9_7, w_9_8, w_9_9, w_9_10, w_9_11, w_9_12, w_9_13, getK, putK, ialK, iasK, aalK, aasK, alnK, zgt_u, zgt_a, Option.toList_some, Option.toList_none, List.cons_append, List.nil_append, List.map_cons, List.map_nil, List.replicate, ite_true, ite_false, if_true, if_false, List.getElem?_cons_zero, List.getElem?_cons_succ, List.set_cons_zero, List.set_cons_succ, true_and, and_true, beq_self_eq_true, zite, Int.toNat_natCast, if_pos, if_neg, zwr_id, zand, Int.reduceAdd, s0]
    rw [w_9_2]
    simp (disch := omega) only [e_9, w_9_0, w_9_1, w_9_3, w_9_4, w_9_5, w_9_6, w_9_7, w_9_8, w_9_9, w_9_10, w_9_11, w_9_12, w_9_13, getK, putK, ialK, iasK, aalK, aasK, alnK, zgt_u, zgt_a, Option.toList_some, Option.toList_none, List.cons_append, List.nil_append, List.map_cons, List.map_nil, List.replicate, ite_true, ite_false, if_true, if_false, List.getElem?_cons_zero, List.getElem?_cons_succ, List.set_cons_zero, List.set_cons_succ, true_and, and_true, beq_self_eq_true, zite, Int.toNat_natCast, if_pos, if_neg, zwr_id, zand, Int.reduceAdd, s1]
    rw [w_9_2]
    simp (disch := omega) only [e_9, w_9_0, w_9_1, w_9_3, w_9_4, w_9_5, w_9_6, w_9_7, w_9_8, w_9_9, w_9_10, w_9_11, w_9_12, w_9_13, getK, putK, ialK, iasK, aalK, aasK, alnK, zgt_u, zgt_a, Option.toList_some, Option.toList_none, List.cons_append, List.nil_append, List.map_cons, List.map_nil, List.replicate, ite_true, ite_false, if_true, if_false, List.getElem?_cons_zero, List.getElem?_cons_succ, List.set_cons_zero, List.set_cons_succ, true_and, and_true, beq_self_eq_true, zite, Int.toNat_natCast, if_pos, if_neg, zwr_id, zand, Int.reduceAdd, s2]
  by_cases c3 : n ≤ 8
  · rw [w_9_2]
    simp (disch := omega) only [e_9, w_9_0, w_9_1, w_9_3, w_9_4, w_9_5, w_9_6, w_9_7, w_9_8, w_9_9, w_9_10, w_9_11, w_9_12, w_9_13, getK, putK, ialK, iasK, aalK, aasK, alnK, zgt_u, zgt_a, Option.toList_some, Option.toList_none, List.cons_append, List.nil_append, List.map_cons, List.map_nil, List.replicate, ite_true, ite_false, if_true, if_false, List.getElem?_cons_zero, List.getElem?_cons_succ, List.set_cons_zero, List.set_cons_succ, true_and, and_true, beq_self_eq_true, zite, Int.toNat_natCast, if_pos, if_neg, zwr_id, zand, Int.reduceAdd, s0]
    rw [w_9_2]
    simp (disch := omega) only [e_9, w_9_0, w_9_1, w_9_3, w_9_4, w_9_5, w_9_6, w_9_7, w_9_8, w_9_9, w_9_10, w_9_11, w_9_12, w_9_13, getK, putK, ialK, iasK, aalK, aasK, alnK, zgt_u, zgt_a, Option.toList_some, Option.toList_none, List.cons_append, List.nil_append, List.map_cons, List.map_nil, List.replicate, ite_true, ite_false, if_true, if_false, List.getElem?_cons_zero, List.getElem?_cons_succ, List.set_cons_zero, List.set_cons_succ, true_and, and_true, beq_self_eq_true, zite, Int.toNat_natCast, if_pos, if_neg, zwr_id, zand, Int.reduceAdd, s1]
    rw [w_9_2]
    simp (disch := omega) only [e_9, w_9_0, w_9_1, w_9_3, w_9_4, w_9_5, w_9_6, w_9_7, w_9_8, w_9_9, w_9_10, w_9_11, w_9_12, w_9_13, getK, putK, ialK, iasK, aalK, aasK, alnK, zgt_u, zgt_a, Option.toList_some, Option.toList_none, List.cons_append, List.nil_append, List.map_cons, List.map_nil, List.replicate, ite_true, ite_false, if_true, if_false, List.getElem?_cons_zero, List.getElem?_cons_succ, List.set_cons_zero, List.set_cons_succ, true_and, and_true, beq_self_eq_true, zite, Int.toNat_natCast, if_pos, if_neg, zwr_id, zand, Int.reduceAdd, s2]
    rw [w_9_2]
    simp (disch := omega) only [e_9, w_9_0, w_9_1, w_9_3, w_9_4, w_9_5, w_9_6, w_9_7, w_9_8, w_9_9, w_9_10, w_9_11, w_9_12, w_9_13, getK, putK, ialK, iasK, aalK, aasK, alnK, zgt_u, zgt_a, Option.toList_some, Option.toList_none, List.cons_append, List.nil_append, List.map_cons, List.map_nil, List.replicate, ite_true, ite_false, if_true, if_false, List.getElem?_cons_zero, List.getElem?_cons_succ, List.set_cons_zero, List.set_cons_succ, true_and, and_true, beq_self_eq_true, zite, Int.toNat_natCast, if_pos, if_neg, zwr_id, zand, Int.reduceAdd, s3]
  by_cases c4 : n ≤ 16
  · rw [w_9_2]
    simp (disch := omega) only [e_9, w_9_0, w_9_1, w_9_3, w_9_4, w_9_5, w_9_6, w_9_7, w_9_8, w_9_9, w_9_10, w_9_11, w_9_12, w_9_13, getK, putK, ialK, iasK, aalK, aasK, alnK, zgt_u, zgt_a, Option.toList_some, Option.toList_none, List.cons_append, List.nil_append, List.map_cons, List.map_nil, List.replicate, ite_true, ite_false, if_true, if_false, List.getElem?_cons_zero, List.getElem?_cons_succ, List.set_cons_zero, List.set_cons_succ, true_and, and_true, beq_self_eq_true, zite, Int.toNat_natCast, if_pos, if_neg, zwr_id, zand, Int.reduceAdd, s0]
    rw [w_9_2]
    simp (disch := omega) only [e_9, w_9_0, w_9_1, w_9_3, w_9_4, w_9_5, w_9_6, w_9_7, w_9_8, w_9_9, w_9_10, w_9_11, w_9_12, w_9_13, getK, putK, ialK, iasK, aalK, aasK, alnK, zgt_u, zgt_a, Option.toList_some, Option.toList_none, List.cons_append, List.nil_append, List.map_cons, List.map_nil, List.replicate, ite_true, ite_false, if_true, if_false, List.getElem?_cons_zero, List.getElem?_cons_succ, List.set_cons_zero, List.set_cons_succ, true_and, and_true, beq_self_eq_true, zite, Int.toNat_natCast, if_pos, if_neg, zwr_id, zand, Int.reduceAdd, s1]
    rw [w_9_2]
    simp (disch := omega) only [e_9, w_9_0, w_9_1, w_9_3, w_9_4, w_9_5, w_9_6, w_9_7, w_9_8, w_9_9, w_9_10, w_9_11, w_9_12, w_9_13, getK, putK, ialK, iasK, aalK, aasK, alnK, zgt_u, zgt_a, Option.toList_some, Option.toList_none, List.cons_append, List.nil_append, List.map_cons, List.map_nil, List.replicate, ite_true, ite_false, if_true, if_false, List.getElem?_cons_zero, List.getElem?_cons_succ, List.set_cons_zero, List.set_cons_succ, true_and, and_true, beq_self_eq_true, zite, Int.toNat_natCast, if_pos, if_neg, zwr_id, zand, Int.reduceAdd, s2]
    rw [w_9_2]
    simp (disch := omega) only [e_9, w_9_0, w_9_1, w_9_3, w_9_4, w_9_5, w_9_6, w_9_7, w_9_8, w_9_9, w_9_10, w_9_11, w_9_12, w_9_13, getK, putK, ialK, iasK, aalK, aasK, alnK, zgt_u, zgt_a, Option.toList_some, Option.toList_none, List.cons_append, List.nil_append, List.map_cons, List.map_nil, List.replicate, ite_true, ite_false, if_true, if_false, List.getElem?_cons_zero, List.getElem?_cons_succ, List.set_cons_zero, List.set_cons_succ, true_and, and_true, beq_self_eq_true, zite, Int.toNat_natCast, if_pos, if_neg, zwr_id, zand, Int.reduceAdd, s3]
    rw [w_9_2]
    simp (disch := omega) only [e_9, w_9_0, w_9_1, w_9_3, w_9_4, w_9_5, w_9_6, w_9_7, w_9_8, w_9_9, w_9_10, w_9_11, w_9_12, w_9_13, getK, putK, ialK, iasK, aalK, aasK, alnK, zgt_u, zgt_a, Option.toList_some, Option.toList_none, List.cons_append, List.nil_append, List.map_cons, List.map_nil, List.replicate, ite_true, ite_false, if_true, if_false, List.getElem?_cons_zero, List.getElem?_cons_succ, List.set_cons_zero, List.set_cons_succ, true_and, and_true, beq_self_eq_true, zite, Int.toNat_natCast, if_pos, if_neg, zwr_id, zand, Int.reduceAdd, s4]
  by_cases c5 : n ≤ 32
  · rw [w_9_2]
    simp (disch := omega) only [e_9, w_9_0, w_9_1, w_9_3, w_9_4, w_9_5, w_9_6, w_9_7, w_9_8, w_9_9, w_9_10, w_9_11, w_9_12, w_9_13, getK, putK, ialK, iasK, aalK, aasK, alnK, zgt_u, zgt_a, Option.toList_some, Option.toList_none, List.cons_append, List.nil_append, List.map_cons, List.map_nil, List.replicate, ite_true, ite_false, if_true, if_false, List.getElem?_cons_zero, List.getElem?_cons_succ, List.set_cons_zero, List.set_cons_succ, true_and, and_true, beq_self_eq_true, zite, Int.toNat_natCast, if_pos, if_neg, zwr_id, zand, Int.reduceAdd, s0]
    rw [w_9_2]
    simp (disch := omega) only [e_9, w_9_0, w_9_1, w_9_3, w_9_4, w_9_5, w_9_6, w_9_7, w_9_8, w_9_9, w_9_10, w_9_11, w_9_12, w_9_13, getK, putK, ialK, iasK, aalK, aasK, alnK, zgt_u, zgt_a, Option.toList_some, Option.toList_none, List.cons_append, List.nil_append, List.map_cons, List.map_nil, List.replicate, ite_true, ite_false, if_true, if_false, List.getElem?_cons_zero, List.getElem?_cons_succ, List.set_cons_zero, List.set_cons_succ, true_and, and_true, beq_self_eq_true, zite, Int.toNat_natCast, if_pos, if_neg, zwr_id, zand, Int.reduceAdd, s1]
    rw [w_9_2]
    simp (disch := omega) only [e_9, w_9_0, w_9_1, w_9_3, w_9_4, w_9_5, w_9_6, w_9_7, w_9_8, w_9_9, w_9_10, w_9_11, w_9_12, w_9_13, getK, putK, ialK, iasK, aalK, aasK, alnK, zgt_u, zgt_a, Option.toList_some, Option.toList_none, List.cons_append, List.nil_append, List.map_cons, List.map_nil, List.replicate, ite_true, ite_false, if_true, if_false, List.getElem?_cons_zero, List.getElem?_cons_succ, List.set_cons_zero, List.set_cons_succ, true_and, and_true, beq_self_eq_true, zite, Int.toNat_natCast, if_pos, if_neg, zwr_id, zand, Int.reduceAdd, s2]
    rw [w_9_2]
    simp (disch := omega) only [e_9, w_9_0, w_9_1, w_9_3, w_9_4, w_9_5, w_9_6, w_9_7, w_9_8, w_9_9, w_9_10, w_9_11, w_9_12, w_9_13, getK, putK, ialK, iasK, aalK, aasK, alnK, zgt_u, zgt_a, Option.toList_some, Option.toList_none, List.cons_append, List.nil_append, List.map_cons, List.map_nil, List.replicate, ite_true, ite_false, if_true, if_false, List.getElem?_cons_zero, List.getElem?_cons_succ, List.set_cons_zero, List.set_cons_succ, true_and, and_true, beq_self_eq_true, zite, Int.toNat_natCast, if_pos, if_neg, zwr_id, zand, Int.reduceAdd, s3]
    rw [w_9_2]
    simp (disch := omega) only [e_9, w_9_0, w_9_1, w_9_3, w_9_4, w_9_5, w_9_6, w_9_7, w_9_8, w_9_9, w_9_10, w_9_11, w_9_12, w_9_13, getK, putK, ialK, iasK, aalK, aasK, alnK, zgt_u, zgt_a, Option.toList_some, Option.toList_none, List.cons_append, List.nil_append, List.map_cons, List.map_nil, List.replicate, ite_true, ite_false, if_true, if_false, List.getElem?_cons_zero, List.getElem?_cons_succ, List.set_cons_zero, List.set_cons_succ, true_and, and_true, beq_self_eq_true, zite, Int.toNat_natCast, if_pos, if_neg, zwr_id, zand, Int.reduceAdd, s4]
    rw [w_9_2]
    simp (disch := omega) only [e_9, w_9_0, w_9_1, w_9_3, w_9_4, w_9_5, w_9_6, w_9_7, w_9_8, w_9_9, w_9_10, w_9_11, w_9_12, w_9_13, getK, putK, ialK, iasK, aalK, aasK, alnK, zgt_u, zgt_a, Option.toList_some, Option.toList_none, List.cons_append, List.nil_append, List.map_cons, List.map_nil, List.replicate, ite_true, ite_false, if_true, if_false, List.getElem?_cons_zero, List.getElem?_cons_succ, List.set_cons_zero, List.set_cons_succ, true_and, and_true, beq_self_eq_true, zite, Int.toNat_natCast, if_pos, if_neg, zwr_id, zand, Int.reduceAdd, s5]
  · rw [w_9_2]
    simp (disch := omega) only [e_9, w_9_0, w_9_1, w_9_3, w_9_4, w_9_5, w_9_6, w_9_7, w_9_8, w_9_9, w_9_10, w_9_11, w_9_12, w_9_13, getK, putK, ialK, iasK, aalK, aasK, alnK, zgt_u, zgt_a, Option.toList_some, Option.toList_none, List.cons_append, List.nil_append, List.map_cons, List.map_nil, List.replicate, ite_true, ite_false, if_true, if_false, List.getElem?_cons_zero, List.getElem?_cons_succ, List.set_cons_zero, List.set_cons_succ, true_and, and_true, beq_self_eq_true, zite, Int.toNat_natCast, if_pos, if_neg, zwr_id, zand, Int.reduceAdd, s0]
    rw [w_9_2]
    simp (disch := omega) only [e_9, w_9_0, w_9_1, w_9_3, w_9_4, w_9_5, w_9_6, w_9_7, w_9_8, w_9_9, w_9_10, w_9_11, w_9_12, w_9_13, getK, putK, ialK, iasK, aalK, aasK, alnK, zgt_u, zgt_a, Option.toList_some, Option.toList_none, List.cons_append, List.nil_append, List.map_cons, List.map_nil, List.replicate, ite_true, ite_false, if_true, if_false, List.getElem?_cons_zero, List.getElem?_cons_succ, List.set_cons_zero, List.set_cons_succ, true_and, and_true, beq_self_eq_true, zite, Int.toNat_natCast, if_pos, if_neg, zwr_id, zand, Int.reduceAdd, s1]
    rw [w_9_2]
    simp (disch := omega) only [e_9, w_9_0, w_9_1, w_9_3, w_9_4, w_9_5, w_9_6, w_9_7, w_9_8, w_9_9, w_9_10, w_9_11, w_9_12, w_9_13, getK, putK, ialK, iasK, aalK, aasK, alnK, zgt_u, zgt_a, Option.toList_some, Option.toList_none, List.cons_append, List.nil_append, List.map_cons, List.map_nil, List.replicate, ite_true, ite_false, if_true, if_false, List.getElem?_cons_zero, List.getElem?_cons_succ, List.set_cons_zero, List.set_cons_succ, true_and, and_true, beq_self_eq_true, zite, Int.toNat_natCast, if_pos, if_neg, zwr_id, zand, Int.reduceAdd, s2]
    rw [w_9_2]
    simp (disch := omega) only [e_9, w_9_0, w_9_1, w_9_3, w_9_4, w_9_5, w_9_6, w_9_7, w_9_8, w_9_9, w_9_10, w_9_11, w_9_12, w_9_13, getK, putK, ialK, iasK, aalK, aasK, alnK, zgt_u, zgt_a, Option.toList_some, Option.toList_none, List.cons_append, List.nil_append, List.map_cons, List.map_nil, List.replicate, ite_true, ite_false, if_true, if_false, List.getElem?_cons_zero, List.getElem?_cons_succ, List.set_cons_zero, List.set_cons_succ, true_and, and_true, beq_self_eq_true, zite, Int.toNat_natCast, if_pos, if_neg, zwr_id, zand, Int.reduceAdd, s3]
    rw [w_9_2]
    simp (disch := omega) only [e_9, w_9_0, w_9_1, w_9_3, w_9_4, w_9_5, w_9_6, w_9_7, w_9_8, w_9_9, w_9_10, w_9_11, w_9_12, w_9_13, getK, putK, ialK, iasK, aalK, aasK, alnK, zgt_u, zgt_a, Option.toList_some, Option.toList_none, List.cons_append, List.nil_append, List.map_cons, List.map_nil, List.replicate, ite_true, ite_false, if_true, if_false, List.getElem?_cons_zero, List.getElem?_cons_succ, List.set_cons_zero, List.set_cons_succ, true_and, and_true, beq_self_eq_true, zite, Int.toNat_natCast, if_pos, if_neg, zwr_id, zand, Int.reduceAdd, s4]
    rw [w_9_2]
    simp (disch := omega) only [e_9, w_9_0, w_9_1, w_9_3, w_9_4, w_9_5, w_9_6, w_9_7, w_9_8, w_9_9, w_9_10, w_9_11, w_9_12, w_9_13, getK, putK, ialK, iasK, aalK, aasK, alnK, zgt_u, zgt_a, Option.toList_some, Option.toList_none, List.cons_append, List.nil_append, List.map_cons, List.map_nil, List.replicate, ite_true, ite_false, if_true, if_false, List.getElem?_cons_zero, List.getElem?_cons_succ, List.set_cons_zero, List.set_cons_succ, true_and, and_true, beq_self_eq_true, zite, Int.toNat_natCast, if_pos, if_neg, zwr_id, zand, Int.reduceAdd, s5]
    rw [w_9_2]
    simp (disch := omega) only [e_9, w_9_0, w_9_1, w_9_3, w_9_4, w_9_5, w_9_6, w_9_7, w_9_8, w_9_9, w_9_10, w_9_11, w_9_12, w_9_13, getK, putK, ialK, iasK, aalK, aasK, alnK, zgt_u, zgt_a, Option.toList_some, Option.toList_none, List.cons_append, List.nil_append, List.map_cons, List.map_nil, List.replicate, ite_true, ite_false, if_true, if_false, List.getElem?_cons_zero, List.getElem?_cons_succ, List.set_cons_zero, List.set_cons_succ, true_and, and_true, beq_self_eq_true, zite, Int.toNat_natCast, if_pos, if_neg, zwr_id, zand, Int.reduceAdd, s5]
end
