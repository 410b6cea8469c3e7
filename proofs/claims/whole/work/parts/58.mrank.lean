/-! RANKS -/
/-- the group's items ahead of x, which stands at the place i -/
def rkA (x : zI) (i : Int) : Int → List zI → Int
  | _, [] => 0
  | k, y :: L => (if y.1 = x.1 ∧ (y.2.1 < x.2.1 ∨ (y.2.1 = x.2.1 ∧ (y.2.2 < x.2.2 ∨ (y.2.2 = x.2.2 ∧ k < i)))) then 1 else 0) + rkA x i (k + 1) L
def cLt (v : zI) : List zI → Int
  | [] => 0
  | x :: L => (if x.1 < v.1 ∨ (x.1 = v.1 ∧ (x.2.1 < v.2.1 ∨ (x.2.1 = v.2.1 ∧ x.2.2 < v.2.2))) then 1 else 0) + cLt v L
def cEq (v : zI) : List zI → Int
  | [] => 0
  | x :: L => (if x.1 = v.1 ∧ x.2.1 = v.2.1 ∧ x.2.2 = v.2.2 then 1 else 0) + cEq v L
theorem cLt_perm {v : zI} {L L' : List zI} (h : L.Perm L') : cLt v L = cLt v L' := by
  induction h with
  | nil => rfl
  | cons x _ ih => unfold cLt; rw [ih]
  | swap x y l => unfold cLt; unfold cLt; omega
  | trans _ _ h1 h2 => exact h1.trans h2
theorem cEq_perm {v : zI} {L L' : List zI} (h : L.Perm L') : cEq v L = cEq v L' := by
  induction h with
  | nil => rfl
  | cons x _ ih => unfold cEq; rw [ih]
  | swap x y l => unfold cEq; unfold cEq; omega
  | trans _ _ h1 h2 => exact h1.trans h2
theorem cEq_c {v x : zI} {L : List zI} : cEq v (x :: L) = (if x.1 = v.1 ∧ x.2.1 = v.2.1 ∧ x.2.2 = v.2.2 then 1 else 0) + cEq v L := rfl
theorem cEq_b (v : zI) : ∀ L, 0 ≤ cEq v L
  | [] => Int.le_refl _
  | x :: L => by have := cEq_b v L; unfold cEq; split <;> omega
theorem cLt_b (v : zI) : ∀ L, 0 ≤ cLt v L
  | [] => Int.le_refl _
  | x :: L => by have := cLt_b v L; unfold cLt; split <;> omega
theorem rkA_b (x : zI) (i : Int) : ∀ (L : List zI) (k : Int), 0 ≤ rkA x i k L ∧ rkA x i k L ≤ L.length
  | [], _ => by simp [rkA]
  | y :: L, k => by
    have := rkA_b x i L (k + 1)
    unfold rkA
    rw [List.length_cons]
    split <;> omega
/-- the rank, counted -/
theorem rkA_2 {v : zI} {i : Int} : ∀ (L : List zI) (k : Int), i ≤ k → rkA v i k L + clt v.1 L = cLt v L
  | [], _, _ => rfl
  | y :: L, k, h => by
    have ih := rkA_2 (v := v) (i := i) L (k + 1) (by omega)
    unfold rkA clt cLt
    rw [← ih]
    by_cases c1 : y.1 < v.1
    · rw [if_neg (by omega), if_pos c1, if_pos (Or.inl c1)]; omega
    · by_cases c2 : y.1 = v.1 ∧ (y.2.1 < v.2.1 ∨ (y.2.1 = v.2.1 ∧ y.2.2 < v.2.2))
      · rw [if_pos (by omega), if_neg c1, if_pos (by omega)]; omega
      · rw [if_neg (by omega), if_neg c1, if_neg (by omega)]; omega
theorem rkA_1 {v : zI} {i : Int} : ∀ (A L : List zI) (k : Int), k + A.length = i → rkA v i k (A ++ L) + clt v.1 (A ++ L) = cLt v (A ++ L) + cEq v A
  | [], L, k, h => by
    have h : k + ((0 : Nat) : Int) = i := h
    rw [List.nil_append, rkA_2 L k (by omega)]
    show _ = _ + (0 : Int)
    omega
  | y :: A, L, k, h => by
    have h : k + ((A.length + 1 : Nat) : Int) = i := h
    have ih := rkA_1 (v := v) (i := i) A L (k + 1) (by omega)
    rw [List.cons_append]
    unfold rkA clt cLt cEq
    by_cases c1 : y.1 < v.1
    · rw [if_neg (by omega), if_pos c1, if_pos (Or.inl c1), if_neg (by omega)]; omega
    · by_cases c2 : y.1 = v.1 ∧ (y.2.1 < v.2.1 ∨ (y.2.1 = v.2.1 ∧ y.2.2 < v.2.2))
      · rw [if_pos (by omega), if_neg c1, if_pos (by omega), if_neg (by omega)]; omega
      · by_cases c3 : y.1 = v.1 ∧ y.2.1 = v.2.1 ∧ y.2.2 = v.2.2
        · rw [if_pos (by omega), if_neg c1, if_neg (by omega), if_pos c3]; omega
        · rw [if_neg (by omega), if_neg c1, if_neg (by omega), if_neg c3]; omega
/-- in a list in order a value stands behind all that are less -/
theorem cLt_0 {v : zI} : ∀ {L : List zI}, (∀ x ∈ L, ¬ ltI x v) → cLt v L = 0
  | [], _ => rfl
  | x :: L, h => by
    have h1 := h x (by simp)
    unfold ltI at h1
    unfold cLt
    rw [if_neg h1, cLt_0 (fun y hy => h y (by simp [hy]))]
    rfl
theorem cEq_0 {v : zI} : ∀ {L : List zI}, (∀ x ∈ L, ltI v x) → cEq v L = 0
  | [], _ => rfl
  | x :: L, h => by
    have h1 := h x (by simp)
    unfold ltI at h1
    unfold cEq
    rw [if_neg (by omega), cEq_0 (fun y hy => h y (by simp [hy]))]
    rfl
theorem zI_eq {x v : zI} (h : x.1 = v.1 ∧ x.2.1 = v.2.1 ∧ x.2.2 = v.2.2) : x = v := by
  obtain ⟨a, b, c⟩ := x
  obtain ⟨d, e, f⟩ := v
  obtain ⟨h1, h2, h3⟩ := h
  dsimp only at h1 h2 h3
  rw [h1, h2, h3]
theorem srt_at1 {v : zI} : ∀ {S : List zI} {t : Nat}, srtI S → cLt v S ≤ t → t < cLt v S + cEq v S → S[t]? = some v
  | [], t, _, h1, h2 => by unfold cLt cEq at h2; omega
  | x :: S, t, hs, h1, h2 => by
    obtain ⟨a1, a2⟩ := List.pairwise_cons.mp hs
    have b := cLt_b v S
    unfold cLt at h1 h2
    unfold cEq at h2
    by_cases c1 : x.1 < v.1 ∨ (x.1 = v.1 ∧ (x.2.1 < v.2.1 ∨ (x.2.1 = v.2.1 ∧ x.2.2 < v.2.2)))
    · rw [if_pos c1] at h1 h2
      rw [if_neg (by omega)] at h2
      obtain ⟨t, rfl⟩ : ∃ t', t = t' + 1 := ⟨t - 1, by omega⟩
      rw [List.getElem?_cons_succ]
      exact srt_at1 a2 (by omega) (by omega)
    · rw [if_neg c1] at h1 h2
      by_cases c2 : x.1 = v.1 ∧ x.2.1 = v.2.1 ∧ x.2.2 = v.2.2
      · have e := zI_eq c2
        subst e
        rw [if_pos c2] at h2
        have h0 : cLt x S = 0 := cLt_0 (fun y hy => a1 y hy)
        cases t with
        | zero => rfl
        | succ t =>
          rw [List.getElem?_cons_succ]
          exact srt_at1 a2 (by omega) (by omega)
      · rw [if_neg c2] at h2
        have hlt : ltI v x := by unfold ltI; omega
        have h0 : cEq v S = 0 := cEq_0 (fun y hy => by
          have := a1 y hy
          unfold ltI at *
          omega)
        have h3 : cLt v S = 0 := cLt_0 (fun y hy => nltI_tr (ltI_as hlt) (a1 y hy))
        omega
theorem srt_at2 {v : zI} : ∀ {S : List zI} {t : Nat}, srtI S → S[t]? = some v → cLt v S ≤ t ∧ t < cLt v S + cEq v S
  | [], t, _, h => by simp at h
  | x :: S, 0, hs, h => by
    obtain ⟨a1, a2⟩ := List.pairwise_cons.mp hs
    have e : x = v := by simpa using h
    subst e
    have h0 : cLt x S = 0 := cLt_0 (fun y hy => a1 y hy)
    have b := cEq_b x S
    unfold cLt cEq
    rw [if_neg (by omega), if_pos ⟨rfl, rfl, rfl⟩]
    omega
  | x :: S, t + 1, hs, h => by
    obtain ⟨a1, a2⟩ := List.pairwise_cons.mp hs
    rw [List.getElem?_cons_succ] at h
    obtain ⟨i1, i2⟩ := srt_at2 a2 h
    have hx := a1 v (List.mem_of_getElem? h)
    unfold ltI at hx
    unfold cLt cEq
    by_cases c1 : x.1 < v.1 ∨ (x.1 = v.1 ∧ (x.2.1 < v.2.1 ∨ (x.2.1 = v.2.1 ∧ x.2.2 < v.2.2)))
    · rw [if_pos c1, if_neg (by omega)]; omega
    · rw [if_neg c1, if_pos (by omega)]
      have h0 : cLt v S = 0 := cLt_0 (fun y hy => by
        have := a1 y hy
        unfold ltI at *
        omega)
      omega
/-- the o-th place of a value -/
theorem occ_at {v : zI} : ∀ (M : List zI) (o : Int), 0 ≤ o → o < cEq v M → ∃ A B, M = A ++ v :: B ∧ cEq v A = o
  | [], o, h0, h1 => by unfold cEq at h1; omega
  | x :: M, o, h0, h1 => by
    unfold cEq at h1
    by_cases c : x.1 = v.1 ∧ x.2.1 = v.2.1 ∧ x.2.2 = v.2.2
    · rw [if_pos c] at h1
      by_cases h : o = 0
      · exact ⟨[], M, by rw [zI_eq c]; rfl, by rw [h]; rfl⟩
      · obtain ⟨A, B, e, h2⟩ := occ_at (v := v) M (o - 1) (by omega) (by omega)
        refine ⟨x :: A, B, by rw [e]; rfl, ?_⟩
        unfold cEq
        rw [if_pos c, h2]; omega
    · rw [if_neg c] at h1
      obtain ⟨A, B, e, h2⟩ := occ_at (v := v) M o h0 (by omega)
      refine ⟨x :: A, B, by rw [e]; rfl, ?_⟩
      unfold cEq
      rw [if_neg c, h2]; omega
theorem cLe_cti {v : zI} : ∀ (L : List zI), cLt v L + cEq v L ≤ clt v.1 L + cti v.1 L
  | [] => Int.le_refl _
  | x :: L => by
    have := cLe_cti (v := v) L
    unfold cLt cEq clt cti
    by_cases c1 : x.1 < v.1
    · rw [if_pos (Or.inl c1), if_pos c1, if_neg (by omega), if_neg (by omega)]; omega
    · by_cases c2 : x.1 = v.1
      · rw [if_neg c1, if_pos c2]
        split
        · rw [if_neg (by omega)]; omega
        · split <;> omega
      · rw [if_neg (by omega), if_neg c1, if_neg c2, if_neg (by omega)]; omega
theorem clt_perm {g : Int} {L L' : List zI} (h : L.Perm L') : clt g L = clt g L' := by
  induction h with
  | nil => rfl
  | cons x _ ih => unfold clt; rw [ih]
  | swap x y l => unfold clt; unfold clt; omega
  | trans _ _ h1 h2 => exact h1.trans h2
theorem clt_b (g : Int) : ∀ L, 0 ≤ clt g L
  | [] => Int.le_refl _
  | x :: L => by have := clt_b g L; unfold clt; split <;> omega
theorem sto_clt {g : Int} : ∀ {S : List zI}, srtI S → sto g S = clt g S
  | [], _ => rfl
  | x :: S, hs => by
    obtain ⟨a1, a2⟩ := List.pairwise_cons.mp hs
    unfold sto clt
    by_cases c : x.1 < g
    · rw [if_pos c, if_pos c, sto_clt a2]; omega
    · rw [if_neg c, if_neg c, ← sto_clt a2, sto_lt (fun y hy => by have := a1 y hy; unfold ltI at this; omega)]; rfl
theorem cLt_g {v : zI} : ∀ (L : List zI), clt v.1 L ≤ cLt v L
  | [] => Int.le_refl _
  | x :: L => by
    have := cLt_g (v := v) L
    unfold cLt clt
    split
    · rw [if_pos (by omega)]; omega
    · split <;> omega
/-- an item's rank is its place in the group -/
theorem rk_at {A B : List zI} {v : zI} : rkA v A.length 0 (A ++ v :: B) < cti v.1 (A ++ v :: B) ∧ gI (srtF (A ++ v :: B)) (sto v.1 (srtF (A ++ v :: B)) + rkA v A.length 0 (A ++ v :: B)) = v := by
  have hp := srtF_perm (A ++ v :: B)
  have hs := srtF_srt (A ++ v :: B)
  have h1 := rkA_1 (v := v) (i := A.length) A (v :: B) 0 (by omega)
  have h2 : cEq v (A ++ v :: B) = cEq v A + (1 + cEq v B) := by
    have : ∀ (A L : List zI), cEq v (A ++ L) = cEq v A + cEq v L := by
      intro A L
      induction A with
      | nil => show _ = (0 : Int) + _; rw [List.nil_append, Int.zero_add]
      | cons x A ih => rw [List.cons_append, cEq_c, cEq_c, ih]; omega
    rw [this, cEq_c, if_pos ⟨rfl, rfl, rfl⟩]
  have h3 := cLe_cti (v := v) (A ++ v :: B)
  have h4 := cEq_b v B
  have h5 := sto_clt (g := v.1) hs
  have h6 := clt_perm (g := v.1) hp
  have h7 := cLt_perm (v := v) hp
  have h8 := cEq_perm (v := v) hp
  have h9 := cEq_b v A
  have h10 := cLt_b v (A ++ v :: B)
  refine ⟨by omega, ?_⟩
  have key := srt_at1 (v := v) (t := (sto v.1 (srtF (A ++ v :: B)) + rkA v A.length 0 (A ++ v :: B)).toNat) hs (by omega) (by omega)
  unfold gI
  rw [if_pos (by omega), List.getD_eq_getElem?_getD, key]
  rfl
/-- and each place has its item -/
theorem rk_ex {M : List zI} {g k : Int} (h0 : 0 ≤ k) (hk : k < cti g M) : ∃ A B v, M = A ++ v :: B ∧ v.1 = g ∧ rkA v A.length 0 M = k := by
  have hp := srtF_perm M
  have hs := srtF_srt M
  obtain ⟨P, G, R, e, s1, s2, g1, g2, g3⟩ := grp_split (g := g) hs
  have hc := cti_F g M
  have hm : ∃ v, G[k.toNat]? = some v := ⟨G[k.toNat]'(by omega), List.getElem?_eq_getElem _⟩
  obtain ⟨v, hv⟩ := hm
  have hvg := g2 v (List.mem_of_getElem? hv)
  have hlk : k.toNat < G.length := (List.getElem?_eq_some_iff.mp hv).1
  have ht : (srtF M)[P.length + k.toNat]? = some v := by
    rw [e, List.getElem?_append_right (by omega), show P.length + k.toNat - P.length = k.toNat by omega, List.getElem?_append_left hlk]
    exact hv
  obtain ⟨t1, t2⟩ := srt_at2 hs ht
  have h7 := cLt_perm (v := v) hp
  have h8 := cEq_perm (v := v) hp
  obtain ⟨A, B, eM, hA⟩ := occ_at (v := v) M (((P.length + k.toNat : Nat) : Int) - cLt v M) (by omega) (by omega)
  have h1 := rkA_1 (v := v) (i := A.length) A (v :: B) 0 (by omega)
  rw [← eM] at h1
  have h5 := sto_clt (g := v.1) hs
  have h6 := clt_perm (g := v.1) hp
  rw [hvg] at h1 h5 h6
  exact ⟨A, B, v, eM, hvg, by omega⟩
/-- the model's search -/
def itF (g k : Int) (M : List zI) : List zI → Int → Option zI
  | [], _ => none
  | y :: L, i => if y.1 = g ∧ rkA y i 0 M = k then some y else itF g k M L (i + 1)
theorem itF_some {g k : Int} {M : List zI} {v : zI} : ∀ (B A : List zI), M = A ++ B → itF g k M B A.length = some v → k < cti g M ∧ gI (srtF M) (sto g (srtF M) + k) = v
  | [], _, _, h => by cases h
  | y :: B, A, e, h => by
    unfold itF at h
    split at h
    next c =>
      cases h
      obtain ⟨c1, c2⟩ := c
      subst c1
      have := rk_at (A := A) (B := B) (v := v)
      rw [← e, c2] at this
      exact this
    next c =>
      rw [show (A.length : Int) + 1 = ((A ++ [y]).length : Int) by simp] at h
      exact itF_some B (A ++ [y]) (by rw [e]; simp) h
theorem itF_none {g k : Int} {M : List zI} : ∀ (B A : List zI), M = A ++ B → itF g k M B A.length = none → ∀ A' v B', B = A' ++ v :: B' → v.1 = g → rkA v (A.length + A'.length : Nat) 0 M ≠ k
  | [], _, _, _, A', v, B', h, _ => by simp at h
  | y :: B, A, e, h, A', v, B', h1, h2 => by
    unfold itF at h
    split at h
    next c => cases h
    next c =>
      cases A' with
      | nil =>
        have e1 : y = v := by simpa using (List.cons.inj h1).1
        subst e1
        intro q
        exact c ⟨h2, q⟩
      | cons a A' =>
        have h1 := (List.cons.inj h1).2
        rw [show (A.length : Int) + 1 = ((A ++ [y]).length : Int) by simp] at h
        have := itF_none B (A ++ [y]) (by rw [e]; simp) h A' v B' h1 h2
        rw [List.length_append, List.length_singleton] at this
        rw [List.length_cons, show A.length + (A'.length + 1) = A.length + 1 + A'.length by omega]
        exact this
theorem itF_eq {g k : Int} {M : List zI} (h0 : 0 ≤ k) : itF g k M M 0 = if cti g M ≤ k then none else some (gI (srtF M) (sto g (srtF M) + k)) := by
  cases h : itF g k M M 0 with
  | none =>
    by_cases c : cti g M ≤ k
    · rw [if_pos c]
    · exfalso
      obtain ⟨A, B, v, e, h1, h2⟩ := rk_ex h0 (show k < cti g M by omega)
      have := itF_none (M := M) M [] rfl h A v B e h1
      rw [List.length_nil, Nat.zero_add] at this
      exact this h2
  | some v =>
    obtain ⟨a, b⟩ := itF_some (M := M) M [] rfl h
    rw [if_neg (by omega), b]
section
variable {sc : Nat × (Int → Int)} {h : zH} {Q : Option zV → zH → Prop} {pm fl p n : Int} {w : Int → Int} {M : List zI} {f g : Int}
theorem lp_rank {x : zI} {i : Int} (hO : mF h pm fl p n w) (hf : 0 ≤ f ∧ f ≤ 1) (hF : rF w (49 + 193 * f) M) (hl : M.length ≤ 48) (hi : 0 ≤ i ∧ i < 64) (hxc : w (49 + 193 * f + 1 + i) = x.2.1) (hxw : w (49 + 193 * f + 1 + 64 + i) = x.2.2) (hxg : w (49 + 193 * f + 1 + 128 + i) = x.1) : ∀ (B A : List zI) (a : Int) (l5 l6 l7 : Option zV), M = A ++ B → 0 ≤ a → a ≤ A.length → zwp sc 135 4 [some (.inr (.inl (some 24))), some (.inl f), some (.inl i), some (.inl a), some (.inl (A.length : Int)), l5, l6, l7] [] h Q = Q (some (.inl (a + rkA x i A.length B))) h := by
  intro B
  induction B with
  | nil =>
    intro A a l5 l6 l7 e ha ha2
    rw [List.append_nil] at e
    have hw := hF.1
    rw [e] at hw
    rw [w_135_4]
    simp (disch := omega) only [e_135, w_135_0, w_135_1, w_135_2, w_135_3, w_135_5, w_135_6, w_135_7, w_135_8, w_135_9, w_135_10, w_135_11, w_135_12, w_135_13, w_135_14, w_135_15, w_135_16, w_135_17, w_135_18, w_135_19, w_135_20, w_135_21, w_135_22, w_135_23, w_135_24, w_135_25, w_135_26, w_135_27, w_135_28, w_135_29, w_135_30, w_135_31, w_135_32, w_135_33, w_135_34, w_135_35, w_135_36, w_135_37, w_135_38, w_135_39, w_135_40, w_135_41, w_135_42, w_135_43, w_135_44, w_135_45, w_135_46, w_135_47, w_135_48, w_135_49, w_135_50, w_135_51, w_135_52, w_135_53, w_135_54, w_135_55, w_135_56, w_135_57, w_135_58, w_135_59, w_135_60, w_135_61, w_135_62, w_135_63, w_135_64, w_135_65, w_135_66, w_135_67, w_135_68, w_135_69, w_135_70, w_135_71, w_135_72, w_135_73, w_135_74, w_135_75, w_135_76, w_135_77, w_135_78, getK, putK, ialK, iasK, aalK, aasK, alnK, zgt_u, zgt_a, Option.toList_some, Option.toList_none, List.cons_append, List.nil_append, List.map_cons, List.map_nil, List.replicate, ite_true, ite_false, if_true, if_false, List.getElem?_cons_zero, List.getElem?_cons_succ, List.set_cons_zero, List.set_cons_succ, true_and, and_true, beq_self_eq_true, zite, Int.toNat_natCast, if_pos, if_neg, zwr_id, zand, mF_rc hO, s6_items hO.1 hO.2 hf, hw]
    unfold rkA
    rw [Int.add_zero]
  | cons y B ih =>
    intro A a l5 l6 l7 e ha ha2
    have hw := hF.1
    have hlen : M.length = A.length + (B.length + 1) := by rw [e]; simp
    obtain ⟨hx, hy, hg⟩ := hF.2 A.length (by omega) (by omega)
    rw [e, gI_app] at hx hy hg
    have ih := fun a l5 l6 l7 => ih (A ++ [y]) a l5 l6 l7 (by rw [e]; simp)
    rw [List.length_append, List.length_singleton, show ((A.length + 1 : Nat) : Int) = (A.length : Int) + 1 by omega] at ih
    have yes : ∀ l5 l6 l7, zwp sc 135 4 [some (.inr (.inl (some 24))), some (.inl f), some (.inl i), some (.inl (a + 1)), some (.inl ((A.length : Int) + 1)), l5, l6, l7] [] h Q = Q (some (.inl (a + (1 + rkA x i (A.length + 1) B)))) h := fun l5 l6 l7 => by rw [ih (a + 1) l5 l6 l7 (by omega) (by omega), Int.add_assoc]
    have no : ∀ l5 l6 l7, zwp sc 135 4 [some (.inr (.inl (some 24))), some (.inl f), some (.inl i), some (.inl (a + 0)), some (.inl ((A.length : Int) + 1)), l5, l6, l7] [] h Q = Q (some (.inl (a + (0 + rkA x i (A.length + 1) B)))) h := fun l5 l6 l7 => by rw [Int.add_zero, Int.zero_add]; exact ih a l5 l6 l7 (by omega) (by omega)
    rw [w_135_4]
    unfold rkA
    by_cases c0 : y.1 = x.1
    · by_cases c1 : y.2.1 = x.2.1
      · by_cases c2 : y.2.2 = x.2.2
        · by_cases c3 : (A.length : Int) < i
          · rw [if_pos (by omega)]
            simp (disch := omega) only [e_135, w_135_0, w_135_1, w_135_2, w_135_3, w_135_5, w_135_6, w_135_7, w_135_8, w_135_9, w_135_10, w_135_11, w_135_12, w_135_13, w_135_14, w_135_15, w_135_16, w_135_17, w_135_18, w_135_19, w_135_20, w_135_21, w_135_22, w_135_23, w_135_24, w_135_25, w_135_26, w_135_27, w_135_28, w_135_29, w_135_30, w_135_31, w_135_32, w_135_33, w_135_34, w_135_35, w_135_36, w_135_37, w_135_38, w_135_39, w_135_40, w_135_41, w_135_42, w_135_43, w_135_44, w_135_45, w_135_46, w_135_47, w_135_48, w_135_49, w_135_50, w_135_51, w_135_52, w_135_53, w_135_54, w_135_55, w_135_56, w_135_57, w_135_58, w_135_59, w_135_60, w_135_61, w_135_62, w_135_63, w_135_64, w_135_65, w_135_66, w_135_67, w_135_68, w_135_69, w_135_70, w_135_71, w_135_72, w_135_73, w_135_74, w_135_75, w_135_76, w_135_77, w_135_78, getK, putK, ialK, iasK, aalK, aasK, alnK, zgt_u, zgt_a, Option.toList_some, Option.toList_none, List.cons_append, List.nil_append, List.map_cons, List.map_nil, List.replicate, ite_true, ite_false, if_true, if_false, List.getElem?_cons_zero, List.getElem?_cons_succ, List.set_cons_zero, List.set_cons_succ, true_and, and_true, beq_self_eq_true, zite, Int.toNat_natCast, if_pos, if_neg, zwr_id, zand, mF_rc hO, s6_items hO.1 hO.2 hf, s6_codeAt hO.1 hO.2 hf, s6_weightAt hO.1 hO.2 hf, s6_groupAt hO.1 hO.2 hf, hw, hx, hy, hg, hxc, hxw, hxg, yes]
          · rw [if_neg (by omega)]
            simp (disch := omega) only [e_135, w_135_0, w_135_1, w_135_2, w_135_3, w_135_5, w_135_6, w_135_7, w_135_8, w_135_9, w_135_10, w_135_11, w_135_12, w_135_13, w_135_14, w_135_15, w_135_16, w_135_17, w_135_18, w_135_19, w_135_20, w_135_21, w_135_22, w_135_23, w_135_24, w_135_25, w_135_26, w_135_27, w_135_28, w_135_29, w_135_30, w_135_31, w_135_32, w_135_33, w_135_34, w_135_35, w_135_36, w_135_37, w_135_38, w_135_39, w_135_40, w_135_41, w_135_42, w_135_43, w_135_44, w_135_45, w_135_46, w_135_47, w_135_48, w_135_49, w_135_50, w_135_51, w_135_52, w_135_53, w_135_54, w_135_55, w_135_56, w_135_57, w_135_58, w_135_59, w_135_60, w_135_61, w_135_62, w_135_63, w_135_64, w_135_65, w_135_66, w_135_67, w_135_68, w_135_69, w_135_70, w_135_71, w_135_72, w_135_73, w_135_74, w_135_75, w_135_76, w_135_77, w_135_78, getK, putK, ialK, iasK, aalK, aasK, alnK, zgt_u, zgt_a, Option.toList_some, Option.toList_none, List.cons_append, List.nil_append, List.map_cons, List.map_nil, List.replicate, ite_true, ite_false, if_true, if_false, List.getElem?_cons_zero, List.getElem?_cons_succ, List.set_cons_zero, List.set_cons_succ, true_and, and_true, beq_self_eq_true, zite, Int.toNat_natCast, if_pos, if_neg, zwr_id, zand, mF_rc hO, s6_items hO.1 hO.2 hf, s6_codeAt hO.1 hO.2 hf, s6_weightAt hO.1 hO.2 hf, s6_groupAt hO.1 hO.2 hf, hw, hx, hy, hg, hxc, hxw, hxg, no]
        · by_cases c3 : y.2.2 < x.2.2
          · rw [if_pos (by omega)]
            simp (disch := omega) only [e_135, w_135_0, w_135_1, w_135_2, w_135_3, w_135_5, w_135_6, w_135_7, w_135_8, w_135_9, w_135_10, w_135_11, w_135_12, w_135_13, w_135_14, w_135_15, w_135_16, w_135_17, w_135_18, w_135_19, w_135_20, w_135_21, w_135_22, w_135_23, w_135_24, w_135_25, w_135_26, w_135_27, w_135_28, w_135_29, w_135_30, w_135_31, w_135_32, w_135_33, w_135_34, w_135_35, w_135_36, w_135_37, w_135_38, w_135_39, w_135_40, w_135_41, w_135_42, w_135_43, w_135_44, w_135_45, w_135_46, w_135_47, w_135_48, w_135_49, w_135_50, w_135_51, w_135_52, w_135_53, w_135_54, w_135_55, w_135_56, w_135_57, w_135_58, w_135_59, w_135_60, w_135_61, w_135_62, w_135_63, w_135_64, w_135_65, w_135_66, w_135_67, w_135_68, w_135_69, w_135_70, w_135_71, w_135_72, w_135_73, w_135_74, w_135_75, w_135_76, w_135_77, w_135_78, getK, putK, ialK, iasK, aalK, aasK, alnK, zgt_u, zgt_a, Option.toList_some, Option.toList_none, List.cons_append, List.nil_append, List.map_cons, List.map_nil, List.replicate, ite_true, ite_false, if_true, if_false, List.getElem?_cons_zero, List.getElem?_cons_succ, List.set_cons_zero, List.set_cons_succ, true_and, and_true, beq_self_eq_true, zite, Int.toNat_natCast, if_pos, if_neg, zwr_id, zand, mF_rc hO, s6_items hO.1 hO.2 hf, s6_codeAt hO.1 hO.2 hf, s6_weightAt hO.1 hO.2 hf, s6_groupAt hO.1 hO.2 hf, hw, hx, hy, hg, hxc, hxw, hxg, yes]
          · rw [if_neg (by omega)]
            simp (disch := omega) only [e_135, w_135_0, w_135_1, w_135_2, w_135_3, w_135_5, w_135_6, w_135_7, w_135_8, w_135_9, w_135_10, w_135_11, w_135_12, w_135_13, w_135_14, w_135_15, w_135_16, w_135_17, w_135_18, w_135_19, w_135_20, w_135_21, w_135_22, w_135_23, w_135_24, w_135_25, w_135_26, w_135_27, w_135_28, w_135_29, w_135_30, w_135_31, w_135_32, w_135_33, w_135_34, w_135_35, w_135_36, w_135_37, w_135_38, w_135_39, w_135_40, w_135_41, w_135_42, w_135_43, w_135_44, w_135_45, w_135_46, w_135_47, w_135_48, w_135_49, w_135_50, w_135_51, w_135_52, w_135_53, w_135_54, w_135_55, w_135_56, w_135_57, w_135_58, w_135_59, w_135_60, w_135_61, w_135_62, w_135_63, w_135_64, w_135_65, w_135_66, w_135_67, w_135_68, w_135_69, w_135_70, w_135_71, w_135_72, w_135_73, w_135_74, w_135_75, w_135_76, w_135_77, w_135_78, getK, putK, ialK, iasK, aalK, aasK, alnK, zgt_u, zgt_a, Option.toList_some, Option.toList_none, List.cons_append, List.nil_append, List.map_cons, List.map_nil, List.replicate, ite_true, ite_false, if_true, if_false, List.getElem?_cons_zero, List.getElem?_cons_succ, List.set_cons_zero, List.set_cons_succ, true_and, and_true, beq_self_eq_true, zite, Int.toNat_natCast, if_pos, if_neg, zwr_id, zand, mF_rc hO, s6_items hO.1 hO.2 hf, s6_codeAt hO.1 hO.2 hf, s6_weightAt hO.1 hO.2 hf, s6_groupAt hO.1 hO.2 hf, hw, hx, hy, hg, hxc, hxw, hxg, no]
      · by_cases c3 : y.2.1 < x.2.1
        · rw [if_pos (by omega)]
          simp (disch := omega) only [e_135, w_135_0, w_135_1, w_135_2, w_135_3, w_135_5, w_135_6, w_135_7, w_135_8, w_135_9, w_135_10, w_135_11, w_135_12, w_135_13, w_135_14, w_135_15, w_135_16, w_135_17, w_135_18, w_135_19, w_135_20, w_135_21, w_135_22, w_135_23, w_135_24, w_135_25, w_135_26, w_135_27, w_135_28, w_135_29, w_135_30, w_135_31, w_135_32, w_135_33, w_135_34, w_135_35, w_135_36, w_135_37, w_135_38, w_135_39, w_135_40, w_135_41, w_135_42, w_135_43, w_135_44, w_135_45, w_135_46, w_135_47, w_135_48, w_135_49, w_135_50, w_135_51, w_135_52, w_135_53, w_135_54, w_135_55, w_135_56, w_135_57, w_135_58, w_135_59, w_135_60, w_135_61, w_135_62, w_135_63, w_135_64, w_135_65, w_135_66, w_135_67, w_135_68, w_135_69, w_135_70, w_135_71, w_135_72, w_135_73, w_135_74, w_135_75, w_135_76, w_135_77, w_135_78, getK, putK, ialK, iasK, aalK, aasK, alnK, zgt_u, zgt_a, Option.toList_some, Option.toList_none, List.cons_append, List.nil_append, List.map_cons, List.map_nil, List.replicate, ite_true, ite_false, if_true, if_false, List.getElem?_cons_zero, List.getElem?_cons_succ, List.set_cons_zero, List.set_cons_succ, true_and, and_true, beq_self_eq_true, zite, Int.toNat_natCast, if_pos, if_neg, zwr_id, zand, mF_rc hO, s6_items hO.1 hO.2 hf, s6_codeAt hO.1 hO.2 hf, s6_weightAt hO.1 hO.2 hf, s6_groupAt hO.1 hO.2 hf, hw, hx, hy, hg, hxc, hxw, hxg, yes]
        · rw [if_neg (by omega)]
          simp (disch := omega) only [e_135, w_135_0, w_135_1, w_135_2, w_135_3, w_135_5, w_135_6, w_135_7, w_135_8, w_135_9, w_135_10, w_135_11, w_135_12, w_135_13, w_135_14, w_135_15, w_135_16, w_135_17, w_135_18, w_135_19, w_135_20, w_135_21, w_135_22, w_135_23, w_135_24, w_135_25, w_135_26, w_135_27, w_135_28, w_135_29, w_135_30, w_135_31, w_135_32, w_135_33, w_135_34, w_135_35, w_135_36, w_135_37, w_135_38, w_135_39, w_135_40, w_135_41, w_135_42, w_135_43, w_135_44, w_135_45, w_135_46, w_135_47, w_135_48, w_135_49, w_135_50, w_135_51, w_135_52, w_135_53, w_135_54, w_135_55, w_135_56, w_135_57, w_135_58, w_135_59, w_135_60, w_135_61, w_135_62, w_135_63, w_135_64, w_135_65, w_135_66, w_135_67, w_135_68, w_135_69, w_135_70, w_135_71, w_135_72, w_135_73, w_135_74, w_135_75, w_135_76, w_135_77, w_135_78, getK, putK, ialK, iasK, aalK, aasK, alnK, zgt_u, zgt_a, Option.toList_some, Option.toList_none, List.cons_append, List.nil_append, List.map_cons, List.map_nil, List.replicate, ite_true, ite_false, if_true, if_false, List.getElem?_cons_zero, List.getElem?_cons_succ, List.set_cons_zero, List.set_cons_succ, true_and, and_true, beq_self_eq_true, zite, Int.toNat_natCast, if_pos, if_neg, zwr_id, zand, mF_rc hO, s6_items hO.1 hO.2 hf, s6_codeAt hO.1 hO.2 hf, s6_weightAt hO.1 hO.2 hf, s6_groupAt hO.1 hO.2 hf, hw, hx, hy, hg, hxc, hxw, hxg, no]
    · rw [if_neg (by omega)]
      by_cases c1 : y.2.1 = x.2.1
      · by_cases c2 : y.2.2 = x.2.2
        · by_cases c3 : (A.length : Int) < i
          · simp (disch := omega) only [e_135, w_135_0, w_135_1, w_135_2, w_135_3, w_135_5, w_135_6, w_135_7, w_135_8, w_135_9, w_135_10, w_135_11, w_135_12, w_135_13, w_135_14, w_135_15, w_135_16, w_135_17, w_135_18, w_135_19, w_135_20, w_135_21, w_135_22, w_135_23, w_135_24, w_135_25, w_135_26, w_135_27, w_135_28, w_135_29, w_135_30, w_135_31, w_135_32, w_135_33, w_135_34, w_135_35, w_135_36, w_135_37, w_135_38, w_135_39, w_135_40, w_135_41, w_135_42, w_135_43, w_135_44, w_135_45, w_135_46, w_135_47, w_135_48, w_135_49, w_135_50, w_135_51, w_135_52, w_135_53, w_135_54, w_135_55, w_135_56, w_135_57, w_135_58, w_135_59, w_135_60, w_135_61, w_135_62, w_135_63, w_135_64, w_135_65, w_135_66, w_135_67, w_135_68, w_135_69, w_135_70, w_135_71, w_135_72, w_135_73, w_135_74, w_135_75, w_135_76, w_135_77, w_135_78, getK, putK, ialK, iasK, aalK, aasK, alnK, zgt_u, zgt_a, Option.toList_some, Option.toList_none, List.cons_append, List.nil_append, List.map_cons, List.map_nil, List.replicate, ite_true, ite_false, if_true, if_false, List.getElem?_cons_zero, List.getElem?_cons_succ, List.set_cons_zero, List.set_cons_succ, true_and, and_true, beq_self_eq_true, zite, Int.toNat_natCast, if_pos, if_neg, zwr_id, zand, mF_rc hO, s6_items hO.1 hO.2 hf, s6_codeAt hO.1 hO.2 hf, s6_weightAt hO.1 hO.2 hf, s6_groupAt hO.1 hO.2 hf, hw, hx, hy, hg, hxc, hxw, hxg, no]
          · simp (disch := omega) only [e_135, w_135_0, w_135_1, w_135_2, w_135_3, w_135_5, w_135_6, w_135_7, w_135_8, w_135_9, w_135_10, w_135_11, w_135_12, w_135_13, w_135_14, w_135_15, w_135_16, w_135_17, w_135_18, w_135_19, w_135_20, w_135_21, w_135_22, w_135_23, w_135_24, w_135_25, w_135_26, w_135_27, w_135_28, w_135_29, w_135_30, w_135_31, w_135_32, w_135_33, w_135_34, w_135_35, w_135_36, w_135_37, w_135_38, w_135_39, w_135_40, w_135_41, w_135_42, w_135_43, w_135_44, w_135_45, w_135_46, w_135_47, w_135_48, w_135_49, w_135_50, w_135_51, w_135_52, w_135_53, w_135_54, w_135_55, w_135_56, w_135_57, w_135_58, w_135_59, w_135_60, w_135_61, w_135_62, w_135_63, w_135_64, w_135_65, w_135_66, w_135_67, w_135_68, w_135_69, w_135_70, w_135_71, w_135_72, w_135_73, w_135_74, w_135_75, w_135_76, w_135_77, w_135_78, getK, putK, ialK, iasK, aalK, aasK, alnK, zgt_u, zgt_a, Option.toList_some, Option.toList_none, List.cons_append, List.nil_append, List.map_cons, List.map_nil, List.replicate, ite_true, ite_false, if_true, if_false, List.getElem?_cons_zero, List.getElem?_cons_succ, List.set_cons_zero, List.set_cons_succ, true_and, and_true, beq_self_eq_true, zite, Int.toNat_natCast, if_pos, if_neg, zwr_id, zand, mF_rc hO, s6_items hO.1 hO.2 hf, s6_codeAt hO.1 hO.2 hf, s6_weightAt hO.1 hO.2 hf, s6_groupAt hO.1 hO.2 hf, hw, hx, hy, hg, hxc, hxw, hxg, no]
        · by_cases c3 : y.2.2 < x.2.2
          · simp (disch := omega) only [e_135, w_135_0, w_135_1, w_135_2, w_135_3, w_135_5, w_135_6, w_135_7, w_135_8, w_135_9, w_135_10, w_135_11, w_135_12, w_135_13, w_135_14, w_135_15, w_135_16, w_135_17, w_135_18, w_135_19, w_135_20, w_135_21, w_135_22, w_135_23, w_135_24, w_135_25, w_135_26, w_135_27, w_135_28, w_135_29, w_135_30, w_135_31, w_135_32, w_135_33, w_135_34, w_135_35, w_135_36, w_135_37, w_135_38, w_135_39, w_135_40, w_135_41, w_135_42, w_135_43, w_135_44, w_135_45, w_135_46, w_135_47, w_135_48, w_135_49, w_135_50, w_135_51, w_135_52, w_135_53, w_135_54, w_135_55, w_135_56, w_135_57, w_135_58, w_135_59, w_135_60, w_135_61, w_135_62, w_135_63, w_135_64, w_135_65, w_135_66, w_135_67, w_135_68, w_135_69, w_135_70, w_135_71, w_135_72, w_135_73, w_135_74, w_135_75, w_135_76, w_135_77, w_135_78, getK, putK, ialK, iasK, aalK, aasK, alnK, zgt_u, zgt_a, Option.toList_some, Option.toList_none, List.cons_append, List.nil_append, List.map_cons, List.map_nil, List.replicate, ite_true, ite_false, if_true, if_false, List.getElem?_cons_zero, List.getElem?_cons_succ, List.set_cons_zero, List.set_cons_succ, true_and, and_true, beq_self_eq_true, zite, Int.toNat_natCast, if_pos, if_neg, zwr_id, zand, mF_rc hO, s6_items hO.1 hO.2 hf, s6_codeAt hO.1 hO.2 hf, s6_weightAt hO.1 hO.2 hf, s6_groupAt hO.1 hO.2 hf, hw, hx, hy, hg, hxc, hxw, hxg, no]
          · simp (disch := omega) only [e_135, w_135_0, w_135_1, w_135_2, w_135_3, w_135_5, w_135_6, w_135_7, w_135_8, w_135_9, w_135_10, w_135_11, w_135_12, w_135_13, w_135_14, w_135_15, w_135_16, w_135_17, w_135_18, w_135_19, w_135_20, w_135_21, w_135_22, w_135_23, w_135_24, w_135_25, w_135_26, w_135_27, w_135_28, w_135_29, w_135_30, w_135_31, w_135_32, w_135_33, w_135_34, w_135_35, w_135_36, w_135_37, w_135_38, w_135_39, w_135_40, w_135_41, w_135_42, w_135_43, w_135_44, w_135_45, w_135_46, w_135_47, w_135_48, w_135_49, w_135_50, w_135_51, w_135_52, w_135_53, w_135_54, w_135_55, w_135_56, w_135_57, w_135_58, w_135_59, w_135_60, w_135_61, w_135_62, w_135_63, w_135_64, w_135_65, w_135_66, w_135_67, w_135_68, w_135_69, w_135_70, w_135_71, w_135_72, w_135_73, w_135_74, w_135_75, w_135_76, w_135_77, w_135_78, getK, putK, ialK, iasK, aalK, aasK, alnK, zgt_u, zgt_a, Option.toList_some, Option.toList_none, List.cons_append, List.nil_append, List.map_cons, List.map_nil, List.replicate, ite_true, ite_false, if_true, if_false, List.getElem?_cons_zero, List.getElem?_cons_succ, List.set_cons_zero, List.set_cons_succ, true_and, and_true, beq_self_eq_true, zite, Int.toNat_natCast, if_pos, if_neg, zwr_id, zand, mF_rc hO, s6_items hO.1 hO.2 hf, s6_codeAt hO.1 hO.2 hf, s6_weightAt hO.1 hO.2 hf, s6_groupAt hO.1 hO.2 hf, hw, hx, hy, hg, hxc, hxw, hxg, no]
      · by_cases c3 : y.2.1 < x.2.1
        · simp (disch := omega) only [e_135, w_135_0, w_135_1, w_135_2, w_135_3, w_135_5, w_135_6, w_135_7, w_135_8, w_135_9, w_135_10, w_135_11, w_135_12, w_135_13, w_135_14, w_135_15, w_135_16, w_135_17, w_135_18, w_135_19, w_135_20, w_135_21, w_135_22, w_135_23, w_135_24, w_135_25, w_135_26, w_135_27, w_135_28, w_135_29, w_135_30, w_135_31, w_135_32, w_135_33, w_135_34, w_135_35, w_135_36, w_135_37, w_135_38, w_135_39, w_135_40, w_135_41, w_135_42, w_135_43, w_135_44, w_135_45, w_135_46, w_135_47, w_135_48, w_135_49, w_135_50, w_135_51, w_135_52, w_135_53, w_135_54, w_135_55, w_135_56, w_135_57, w_135_58, w_135_59, w_135_60, w_135_61, w_135_62, w_135_63, w_135_64, w_135_65, w_135_66, w_135_67, w_135_68, w_135_69, w_135_70, w_135_71, w_135_72, w_135_73, w_135_74, w_135_75, w_135_76, w_135_77, w_135_78, getK, putK, ialK, iasK, aalK, aasK, alnK, zgt_u, zgt_a, Option.toList_some, Option.toList_none, List.cons_append, List.nil_append, List.map_cons, List.map_nil, List.replicate, ite_true, ite_false, if_true, if_false, List.getElem?_cons_zero, List.getElem?_cons_succ, List.set_cons_zero, List.set_cons_succ, true_and, and_true, beq_self_eq_true, zite, Int.toNat_natCast, if_pos, if_neg, zwr_id, zand, mF_rc hO, s6_items hO.1 hO.2 hf, s6_codeAt hO.1 hO.2 hf, s6_weightAt hO.1 hO.2 hf, s6_groupAt hO.1 hO.2 hf, hw, hx, hy, hg, hxc, hxw, hxg, no]
        · simp (disch := omega) only [e_135, w_135_0, w_135_1, w_135_2, w_135_3, w_135_5, w_135_6, w_135_7, w_135_8, w_135_9, w_135_10, w_135_11, w_135_12, w_135_13, w_135_14, w_135_15, w_135_16, w_135_17, w_135_18, w_135_19, w_135_20, w_135_21, w_135_22, w_135_23, w_135_24, w_135_25, w_135_26, w_135_27, w_135_28, w_135_29, w_135_30, w_135_31, w_135_32, w_135_33, w_135_34, w_135_35, w_135_36, w_135_37, w_135_38, w_135_39, w_135_40, w_135_41, w_135_42, w_135_43, w_135_44, w_135_45, w_135_46, w_135_47, w_135_48, w_135_49, w_135_50, w_135_51, w_135_52, w_135_53, w_135_54, w_135_55, w_135_56, w_135_57, w_135_58, w_135_59, w_135_60, w_135_61, w_135_62, w_135_63, w_135_64, w_135_65, w_135_66, w_135_67, w_135_68, w_135_69, w_135_70, w_135_71, w_135_72, w_135_73, w_135_74, w_135_75, w_135_76, w_135_77, w_135_78, getK, putK, ialK, iasK, aalK, aasK, alnK, zgt_u, zgt_a, Option.toList_some, Option.toList_none, List.cons_append, List.nil_append, List.map_cons, List.map_nil, List.replicate, ite_true, ite_false, if_true, if_false, List.getElem?_cons_zero, List.getElem?_cons_succ, List.set_cons_zero, List.set_cons_succ, true_and, and_true, beq_self_eq_true, zite, Int.toNat_natCast, if_pos, if_neg, zwr_id, zand, mF_rc hO, s6_items hO.1 hO.2 hf, s6_codeAt hO.1 hO.2 hf, s6_weightAt hO.1 hO.2 hf, s6_groupAt hO.1 hO.2 hf, hw, hx, hy, hg, hxc, hxw, hxg, no]
theorem s6_rank {i : Int} (hO : mF h pm fl p n w) (hf : 0 ≤ f ∧ f ≤ 1) (hF : rF w (49 + 193 * f) M) (hl : M.length ≤ 48) (hi : 0 ≤ i ∧ i < M.length) : zca sc 135 [.inr (.inl (some 24)), .inl f, .inl i] h Q = Q (some (.inl (rkA (gI M i) i 0 M))) h := by
  obtain ⟨hx, hy, hg⟩ := hF.2 i hi.1 hi.2
  simp (disch := omega) only [e_135, w_135_0, w_135_1, w_135_2, w_135_3, w_135_5, w_135_6, w_135_7, w_135_8, w_135_9, w_135_10, w_135_11, w_135_12, w_135_13, w_135_14, w_135_15, w_135_16, w_135_17, w_135_18, w_135_19, w_135_20, w_135_21, w_135_22, w_135_23, w_135_24, w_135_25, w_135_26, w_135_27, w_135_28, w_135_29, w_135_30, w_135_31, w_135_32, w_135_33, w_135_34, w_135_35, w_135_36, w_135_37, w_135_38, w_135_39, w_135_40, w_135_41, w_135_42, w_135_43, w_135_44, w_135_45, w_135_46, w_135_47, w_135_48, w_135_49, w_135_50, w_135_51, w_135_52, w_135_53, w_135_54, w_135_55, w_135_56, w_135_57, w_135_58, w_135_59, w_135_60, w_135_61, w_135_62, w_135_63, w_135_64, w_135_65, w_135_66, w_135_67, w_135_68, w_135_69, w_135_70, w_135_71, w_135_72, w_135_73, w_135_74, w_135_75, w_135_76, w_135_77, w_135_78, getK, putK, ialK, iasK, aalK, aasK, alnK, zgt_u, zgt_a, Option.toList_some, Option.toList_none, List.cons_append, List.nil_append, List.map_cons, List.map_nil, List.replicate, ite_true, ite_false, if_true, if_false, List.getElem?_cons_zero, List.getElem?_cons_succ, List.set_cons_zero, List.set_cons_succ, true_and, and_true, beq_self_eq_true, zite, Int.toNat_natCast, if_pos, if_neg, zwr_id, zand]
  have := lp_rank (sc := sc) (Q := Q) hO hf hF hl ⟨hi.1, by omega⟩ hx hy hg M [] 0 none none none rfl (Int.le_refl _) (by simp)
  rw [Int.zero_add] at this
  exact this
def itA (o : Option zI) (x : Int) : Int := match o with
  | none => -9999
  | some y => if x = 0 then y.2.1 else y.2.2
theorem lp_item {k x : Int} (hO : mF h pm fl p n w) (hf : 0 ≤ f ∧ f ≤ 1) (hF : rF w (49 + 193 * f) M) (hl : M.length ≤ 48) : ∀ (B A : List zI), M = A ++ B → zwp sc 136 15 [some (.inr (.inl (some 24))), some (.inl f), some (.inl g), some (.inl k), some (.inl x), some (.inl (A.length : Int))] [] h Q = Q (some (.inl (itA (itF g k M B A.length) x))) h := by
  intro B
  induction B with
  | nil =>
    intro A e
    rw [List.append_nil] at e
    have hw := hF.1
    rw [e] at hw
    rw [w_136_15]
    simp (disch := omega) only [e_136, w_136_0, w_136_1, w_136_2, w_136_3, w_136_4, w_136_5, w_136_6, w_136_7, w_136_8, w_136_9, w_136_10, w_136_11, w_136_12, w_136_13, w_136_14, w_136_16, w_136_17, w_136_18, w_136_19, w_136_20, w_136_21, w_136_22, w_136_23, w_136_24, w_136_25, w_136_26, w_136_27, w_136_28, w_136_29, w_136_30, w_136_31, w_136_32, w_136_33, w_136_34, w_136_35, w_136_36, w_136_37, w_136_38, w_136_39, w_136_40, w_136_41, w_136_42, w_136_43, w_136_44, w_136_45, w_136_46, w_136_47, getK, putK, ialK, iasK, aalK, aasK, alnK, zgt_u, zgt_a, Option.toList_some, Option.toList_none, List.cons_append, List.nil_append, List.map_cons, List.map_nil, List.replicate, ite_true, ite_false, if_true, if_false, List.getElem?_cons_zero, List.getElem?_cons_succ, List.set_cons_zero, List.set_cons_succ, true_and, and_true, beq_self_eq_true, zite, Int.toNat_natCast, if_pos, if_neg, zwr_id, zand, mF_rc hO, s6_items hO.1 hO.2 hf, hw]
    rfl
  | cons y B ih =>
    intro A e
    have hw := hF.1
    have hlen : M.length = A.length + (B.length + 1) := by rw [e]; simp
    obtain ⟨hx, hy, hg⟩ := hF.2 A.length (by omega) (by omega)
    rw [e, gI_app] at hx hy hg
    have hr : ∀ Q : Option zV → zH → Prop, zca sc 135 [.inr (.inl (some 24)), .inl f, .inl (A.length : Int)] h Q = Q (some (.inl (rkA y A.length 0 M))) h := fun Q => by
      rw [s6_rank hO hf hF hl ⟨by omega, by omega⟩]
      rw [show gI M A.length = y by rw [e, gI_app]]
    have ih := ih (A ++ [y]) (by rw [e]; simp)
    rw [List.length_append, List.length_singleton, show ((A.length + 1 : Nat) : Int) = (A.length : Int) + 1 by omega] at ih
    rw [w_136_15]
    unfold itF
    by_cases c1 : y.1 = g
    · by_cases c2 : rkA y A.length 0 M = k
      · rw [if_pos ⟨c1, c2⟩]
        unfold itA
        by_cases c3 : x = 0
        · simp (disch := omega) only [e_136, w_136_0, w_136_1, w_136_2, w_136_3, w_136_4, w_136_5, w_136_6, w_136_7, w_136_8, w_136_9, w_136_10, w_136_11, w_136_12, w_136_13, w_136_14, w_136_16, w_136_17, w_136_18, w_136_19, w_136_20, w_136_21, w_136_22, w_136_23, w_136_24, w_136_25, w_136_26, w_136_27, w_136_28, w_136_29, w_136_30, w_136_31, w_136_32, w_136_33, w_136_34, w_136_35, w_136_36, w_136_37, w_136_38, w_136_39, w_136_40, w_136_41, w_136_42, w_136_43, w_136_44, w_136_45, w_136_46, w_136_47, getK, putK, ialK, iasK, aalK, aasK, alnK, zgt_u, zgt_a, Option.toList_some, Option.toList_none, List.cons_append, List.nil_append, List.map_cons, List.map_nil, List.replicate, ite_true, ite_false, if_true, if_false, List.getElem?_cons_zero, List.getElem?_cons_succ, List.set_cons_zero, List.set_cons_succ, true_and, and_true, beq_self_eq_true, zite, Int.toNat_natCast, if_pos, if_neg, zwr_id, zand, mF_rc hO, s6_items hO.1 hO.2 hf, s6_codeAt hO.1 hO.2 hf, s6_weightAt hO.1 hO.2 hf, s6_groupAt hO.1 hO.2 hf, hw, hx, hy, hg, hr]
        · simp (disch := omega) only [e_136, w_136_0, w_136_1, w_136_2, w_136_3, w_136_4, w_136_5, w_136_6, w_136_7, w_136_8, w_136_9, w_136_10, w_136_11, w_136_12, w_136_13, w_136_14, w_136_16, w_136_17, w_136_18, w_136_19, w_136_20, w_136_21, w_136_22, w_136_23, w_136_24, w_136_25, w_136_26, w_136_27, w_136_28, w_136_29, w_136_30, w_136_31, w_136_32, w_136_33, w_136_34, w_136_35, w_136_36, w_136_37, w_136_38, w_136_39, w_136_40, w_136_41, w_136_42, w_136_43, w_136_44, w_136_45, w_136_46, w_136_47, getK, putK, ialK, iasK, aalK, aasK, alnK, zgt_u, zgt_a, Option.toList_some, Option.toList_none, List.cons_append, List.nil_append, List.map_cons, List.map_nil, List.replicate, ite_true, ite_false, if_true, if_false, List.getElem?_cons_zero, List.getElem?_cons_succ, List.set_cons_zero, List.set_cons_succ, true_and, and_true, beq_self_eq_true, zite, Int.toNat_natCast, if_pos, if_neg, zwr_id, zand, mF_rc hO, s6_items hO.1 hO.2 hf, s6_codeAt hO.1 hO.2 hf, s6_weightAt hO.1 hO.2 hf, s6_groupAt hO.1 hO.2 hf, hw, hx, hy, hg, hr]
      · rw [if_neg (fun q => c2 q.2)]
        simp (disch := omega) only [e_136, w_136_0, w_136_1, w_136_2, w_136_3, w_136_4, w_136_5, w_136_6, w_136_7, w_136_8, w_136_9, w_136_10, w_136_11, w_136_12, w_136_13, w_136_14, w_136_16, w_136_17, w_136_18, w_136_19, w_136_20, w_136_21, w_136_22, w_136_23, w_136_24, w_136_25, w_136_26, w_136_27, w_136_28, w_136_29, w_136_30, w_136_31, w_136_32, w_136_33, w_136_34, w_136_35, w_136_36, w_136_37, w_136_38, w_136_39, w_136_40, w_136_41, w_136_42, w_136_43, w_136_44, w_136_45, w_136_46, w_136_47, getK, putK, ialK, iasK, aalK, aasK, alnK, zgt_u, zgt_a, Option.toList_some, Option.toList_none, List.cons_append, List.nil_append, List.map_cons, List.map_nil, List.replicate, ite_true, ite_false, if_true, if_false, List.getElem?_cons_zero, List.getElem?_cons_succ, List.set_cons_zero, List.set_cons_succ, true_and, and_true, beq_self_eq_true, zite, Int.toNat_natCast, if_pos, if_neg, zwr_id, zand, mF_rc hO, s6_items hO.1 hO.2 hf, s6_groupAt hO.1 hO.2 hf, hw, hg, hr, ih]
    · rw [if_neg (fun q => c1 q.1)]
      simp (disch := omega) only [e_136, w_136_0, w_136_1, w_136_2, w_136_3, w_136_4, w_136_5, w_136_6, w_136_7, w_136_8, w_136_9, w_136_10, w_136_11, w_136_12, w_136_13, w_136_14, w_136_16, w_136_17, w_136_18, w_136_19, w_136_20, w_136_21, w_136_22, w_136_23, w_136_24, w_136_25, w_136_26, w_136_27, w_136_28, w_136_29, w_136_30, w_136_31, w_136_32, w_136_33, w_136_34, w_136_35, w_136_36, w_136_37, w_136_38, w_136_39, w_136_40, w_136_41, w_136_42, w_136_43, w_136_44, w_136_45, w_136_46, w_136_47, getK, putK, ialK, iasK, aalK, aasK, alnK, zgt_u, zgt_a, Option.toList_some, Option.toList_none, List.cons_append, List.nil_append, List.map_cons, List.map_nil, List.replicate, ite_true, ite_false, if_true, if_false, List.getElem?_cons_zero, List.getElem?_cons_succ, List.set_cons_zero, List.set_cons_succ, true_and, and_true, beq_self_eq_true, zite, Int.toNat_natCast, if_pos, if_neg, zwr_id, zand, mF_rc hO, s6_items hO.1 hO.2 hf, s6_groupAt hO.1 hO.2 hf, hw, hg, ih]
end
section
variable {sc : Nat × (Int → Int)} {h : zH} {Q : Option zV → zH → Prop} {z : zS}
theorem s6_item {f g k x : Int} (hM : rM h z) (hz : okZ z) : zca sc 136 [.inr (.inl (some 24)), .inl f, .inl g, .inl k, .inl x] h Q = Q (some (.inl (itS z f g k x))) h := by
  unfold itS
  by_cases h0 : (0 ≤ f ∧ f ≤ 1) ∧ (0 ≤ g ∧ g ≤ 6)
  · obtain ⟨w, hO, hF, hl, ho⟩ := mF_of hM hz h0.1
    by_cases h1 : 0 ≤ k
    · by_cases h2 : 0 ≤ x ∧ x ≤ 1
      · rw [if_pos ⟨h0, h1, h2⟩]
        have := lp_item (sc := sc) (Q := Q) (g := g) (k := k) (x := x) hO h0.1 hF hl (famS z f) [] rfl
        rw [List.length_nil, Int.natCast_zero, itF_eq h1] at this
        have e : itA (if cti g (famS z f) ≤ k then none else some (gI (srtF (famS z f)) (sto g (srtF (famS z f)) + k))) x = if cti g (famS z f) ≤ k then -9999 else if x = 0 then (gI (srtF (famS z f)) (sto g (srtF (famS z f)) + k)).2.1 else (gI (srtF (famS z f)) (sto g (srtF (famS z f)) + k)).2.2 := by
          unfold itA
          by_cases c : cti g (famS z f) ≤ k
          · rw [if_pos c, if_pos c]
          · rw [if_neg c, if_neg c]
        rw [e] at this
        simp (disch := omega) only [e_136, w_136_0, w_136_1, w_136_2, w_136_3, w_136_4, w_136_5, w_136_6, w_136_7, w_136_8, w_136_9, w_136_10, w_136_11, w_136_12, w_136_13, w_136_14, w_136_16, w_136_17, w_136_18, w_136_19, w_136_20, w_136_21, w_136_22, w_136_23, w_136_24, w_136_25, w_136_26, w_136_27, w_136_28, w_136_29, w_136_30, w_136_31, w_136_32, w_136_33, w_136_34, w_136_35, w_136_36, w_136_37, w_136_38, w_136_39, w_136_40, w_136_41, w_136_42, w_136_43, w_136_44, w_136_45, w_136_46, w_136_47, getK, putK, ialK, iasK, aalK, aasK, alnK, zgt_u, zgt_a, Option.toList_some, Option.toList_none, List.cons_append, List.nil_append, List.map_cons, List.map_nil, List.replicate, ite_true, ite_false, if_true, if_false, List.getElem?_cons_zero, List.getElem?_cons_succ, List.set_cons_zero, List.set_cons_succ, true_and, and_true, beq_self_eq_true, zite, Int.toNat_natCast, if_pos, if_neg, zwr_id, zand, s_isGroup6, s_isIn, zb_eq, zb_ne, h0, and_self, not_true]
        exact this
      · rw [if_neg (fun q => h2 q.2.2)]
        simp (disch := omega) only [e_136, w_136_0, w_136_1, w_136_2, w_136_3, w_136_4, w_136_5, w_136_6, w_136_7, w_136_8, w_136_9, w_136_10, w_136_11, w_136_12, w_136_13, w_136_14, w_136_16, w_136_17, w_136_18, w_136_19, w_136_20, w_136_21, w_136_22, w_136_23, w_136_24, w_136_25, w_136_26, w_136_27, w_136_28, w_136_29, w_136_30, w_136_31, w_136_32, w_136_33, w_136_34, w_136_35, w_136_36, w_136_37, w_136_38, w_136_39, w_136_40, w_136_41, w_136_42, w_136_43, w_136_44, w_136_45, w_136_46, w_136_47, getK, putK, ialK, iasK, aalK, aasK, alnK, zgt_u, zgt_a, Option.toList_some, Option.toList_none, List.cons_append, List.nil_append, List.map_cons, List.map_nil, List.replicate, ite_true, ite_false, if_true, if_false, List.getElem?_cons_zero, List.getElem?_cons_succ, List.set_cons_zero, List.set_cons_succ, true_and, and_true, beq_self_eq_true, zite, Int.toNat_natCast, if_pos, if_neg, zwr_id, zand, s_isGroup6, s_isIn, zb_eq, zb_ne, h0, and_self, not_true]
    · rw [if_neg (fun q => h1 q.2.1)]
      simp (disch := omega) only [e_136, w_136_0, w_136_1, w_136_2, w_136_3, w_136_4, w_136_5, w_136_6, w_136_7, w_136_8, w_136_9, w_136_10, w_136_11, w_136_12, w_136_13, w_136_14, w_136_16, w_136_17, w_136_18, w_136_19, w_136_20, w_136_21, w_136_22, w_136_23, w_136_24, w_136_25, w_136_26, w_136_27, w_136_28, w_136_29, w_136_30, w_136_31, w_136_32, w_136_33, w_136_34, w_136_35, w_136_36, w_136_37, w_136_38, w_136_39, w_136_40, w_136_41, w_136_42, w_136_43, w_136_44, w_136_45, w_136_46, w_136_47, getK, putK, ialK, iasK, aalK, aasK, alnK, zgt_u, zgt_a, Option.toList_some, Option.toList_none, List.cons_append, List.nil_append, List.map_cons, List.map_nil, List.replicate, ite_true, ite_false, if_true, if_false, List.getElem?_cons_zero, List.getElem?_cons_succ, List.set_cons_zero, List.set_cons_succ, true_and, and_true, beq_self_eq_true, zite, Int.toNat_natCast, if_pos, if_neg, zwr_id, zand, s_isGroup6, s_isIn, zb_eq, zb_ne, h0, and_self, not_true]
  · rw [if_neg (fun q => h0 q.1)]
    simp (disch := omega) only [e_136, w_136_0, w_136_1, w_136_2, w_136_3, w_136_4, w_136_5, w_136_6, w_136_7, w_136_8, w_136_9, w_136_10, w_136_11, w_136_12, w_136_13, w_136_14, w_136_16, w_136_17, w_136_18, w_136_19, w_136_20, w_136_21, w_136_22, w_136_23, w_136_24, w_136_25, w_136_26, w_136_27, w_136_28, w_136_29, w_136_30, w_136_31, w_136_32, w_136_33, w_136_34, w_136_35, w_136_36, w_136_37, w_136_38, w_136_39, w_136_40, w_136_41, w_136_42, w_136_43, w_136_44, w_136_45, w_136_46, w_136_47, getK, putK, ialK, iasK, aalK, aasK, alnK, zgt_u, zgt_a, Option.toList_some, Option.toList_none, List.cons_append, List.nil_append, List.map_cons, List.map_nil, List.replicate, ite_true, ite_false, if_true, if_false, List.getElem?_cons_zero, List.getElem?_cons_succ, List.set_cons_zero, List.set_cons_succ, true_and, and_true, beq_self_eq_true, zite, Int.toNat_natCast, if_pos, if_neg, zwr_id, zand, s_isGroup6, s_isIn, zb_eq, zb_ne, h0, not_false_eq_true]
end
