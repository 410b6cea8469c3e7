/-! COUNTS, AND THE GROUPS' SIZES -/
theorem cti_perm {g : Int} {L L' : List zI} (h : L.Perm L') : cti g L = cti g L' := by
  induction h with
  | nil => rfl
  | cons x _ ih => unfold cti; rw [ih]
  | swap x y l => unfold cti; unfold cti; omega
  | trans _ _ h1 h2 => exact h1.trans h2
theorem lti_perm {g : Int} {L L' : List zI} (h : L.Perm L') : lti g L = lti g L' := by
  induction h with
  | nil => rfl
  | cons x _ ih => unfold lti; rw [ih]
  | swap x y l => unfold lti; unfold lti; omega
  | trans _ _ h1 h2 => exact h1.trans h2
theorem wti_perm {g : Int} {L L' : List zI} (h : L.Perm L') : wti g L = wti g L' := by
  induction h with
  | nil => rfl
  | cons x _ ih => unfold wti; rw [ih]
  | swap x y l => unfold wti; unfold wti; omega
  | trans _ _ h1 h2 => exact h1.trans h2
theorem okIs_perm {L L' : List zI} (h : L.Perm L') (ho : okIs L) : okIs L' := fun x hx => ho x (h.mem_iff.mpr hx)
theorem sto_lt {g : Int} : ∀ {L : List zI}, (∀ x ∈ L, g ≤ x.1) → sto g L = 0
  | [], _ => rfl
  | x :: L, h => by unfold sto; rw [if_neg (by have := h x (by simp); omega)]
theorem sto_cti {g : Int} : ∀ {L : List zI}, srtI L → sto (g + 1) L - sto g L = cti g L
  | [], _ => rfl
  | x :: L, h => by
    obtain ⟨h1, h2⟩ := List.pairwise_cons.mp h
    have ih := sto_cti (g := g) h2
    have hge : ∀ y ∈ L, x.1 ≤ y.1 := fun y hy => by have := h1 y hy; unfold ltI at this; omega
    unfold sto cti
    by_cases c1 : x.1 < g
    · rw [if_pos (by omega), if_pos c1, if_neg (by omega)]; omega
    · by_cases c2 : x.1 = g
      · have e0 : sto g L = 0 := sto_lt (fun y hy => by have := hge y hy; omega)
        rw [if_pos (by omega), if_neg c1, if_pos c2]; omega
      · have e0 : sto g L = 0 := sto_lt (fun y hy => by have := hge y hy; omega)
        have e1 : sto (g + 1) L = 0 := sto_lt (fun y hy => by have := hge y hy; omega)
        rw [if_neg (by omega), if_neg c1, if_neg c2]; omega
/-- the least empty group, from g on -/
def lec (L : List zI) : Nat → Int → Int
  | 0, _ => 6
  | j + 1, g => if cti g L = 0 then g else lec L j (g + 1)
theorem leg_lec {L : List zI} (h : srtI L) : ∀ j g, leg L j g = lec L j g
  | 0, _ => rfl
  | j + 1, g => by unfold leg lec; rw [sto_cti h, leg_lec h j]
theorem lec_perm {L L' : List zI} (h : L.Perm L') : ∀ j g, lec L j g = lec L' j g
  | 0, _ => rfl
  | j + 1, g => by unfold lec; rw [cti_perm h, lec_perm h j]
def lgM (M : List zI) : Int := lec M 7 0
theorem cti_nil {g : Int} : ∀ {L : List zI}, cti g L = 0 ↔ ∀ x ∈ L, x.1 ≠ g
  | [] => by simp [cti]
  | x :: L => by
    have ih := cti_nil (g := g) (L := L)
    have hb := cti_b g L
    unfold cti
    constructor
    · intro h y hy
      split at h
      · omega
      · rcases List.mem_cons.mp hy with rfl | hy
        · assumption
        · exact ih.mp (by omega) y hy
    · intro h
      rw [if_neg (h x (by simp)), ih.mpr (fun y hy => h y (by simp [hy]))]
      rfl
theorem cti_1 {g : Int} {x : zI} : cti g [x] = if x.1 = g then 1 else 0 := by unfold cti; unfold cti; omega
theorem cti_app {g : Int} : ∀ {L L' : List zI}, cti g (L ++ L') = cti g L + cti g L'
  | [], L' => by simp [cti]
  | x :: L, L' => by
    show _ + cti g (L ++ L') = _ + cti g L + _
    rw [cti_app]; omega
/-- all groups together -/
theorem cti_sum : ∀ {L : List zI}, okIs L → cti 0 L + cti 1 L + cti 2 L + cti 3 L + cti 4 L + cti 5 L + cti 6 L = L.length
  | [], _ => rfl
  | x :: L, h => by
    have h := okIs_c.mp h
    have ih := cti_sum h.2
    have h1 := h.1.1
    have h2 := h.1.2.1
    unfold cti
    simp only [List.length_cons]
    rcases (show x.1 = 0 ∨ x.1 = 1 ∨ x.1 = 2 ∨ x.1 = 3 ∨ x.1 = 4 ∨ x.1 = 5 ∨ x.1 = 6 by omega) with q | q | q | q | q | q | q <;> rw [q] <;> simp <;> omega
/-- groups are not too small -/
def gOK (L : List zI) : Prop := (cti 1 L = 0 ∨ 2 ≤ cti 1 L) ∧ (cti 2 L = 0 ∨ 3 ≤ cti 2 L) ∧ (cti 3 L = 0 ∨ 5 ≤ cti 3 L) ∧ (cti 4 L = 0 ∨ 9 ≤ cti 4 L) ∧ (cti 5 L = 0 ∨ 17 ≤ cti 5 L) ∧ (cti 6 L = 0 ∨ 33 ≤ cti 6 L)
theorem lgM_ok {M : List zI} (ho : okIs M) (hg : gOK M) (hl : M.length ≤ 48) : 0 ≤ lgM M ∧ lgM M ≤ 6 ∧ cti (lgM M) M = 0 ∧ (∀ j, 0 ≤ j → j < lgM M → cti j M ≠ 0) := by
  have hs := cti_sum ho
  have b0 := cti_b 0 M
  unfold gOK at hg
  unfold lgM lec
  split
  · exact ⟨by omega, by omega, by assumption, fun j h1 h2 => by omega⟩
  unfold lec
  split
  · exact ⟨by omega, by omega, by assumption, fun j h1 h2 => by rw [show j = 0 by omega]; assumption⟩
  unfold lec
  split
  · exact ⟨by omega, by omega, by assumption, fun j h1 h2 => by rcases (show j = 0 ∨ j = 1 by omega) with rfl | rfl <;> assumption⟩
  unfold lec
  split
  · exact ⟨by omega, by omega, by assumption, fun j h1 h2 => by rcases (show j = 0 ∨ j = 1 ∨ j = 2 by omega) with rfl | rfl | rfl <;> assumption⟩
  unfold lec
  split
  · exact ⟨by omega, by omega, by assumption, fun j h1 h2 => by rcases (show j = 0 ∨ j = 1 ∨ j = 2 ∨ j = 3 by omega) with rfl | rfl | rfl | rfl <;> assumption⟩
  unfold lec
  split
  · exact ⟨by omega, by omega, by assumption, fun j h1 h2 => by rcases (show j = 0 ∨ j = 1 ∨ j = 2 ∨ j = 3 ∨ j = 4 by omega) with rfl | rfl | rfl | rfl | rfl <;> assumption⟩
  unfold lec
  split
  · exact ⟨by omega, by omega, by assumption, fun j h1 h2 => by rcases (show j = 0 ∨ j = 1 ∨ j = 2 ∨ j = 3 ∨ j = 4 ∨ j = 5 by omega) with rfl | rfl | rfl | rfl | rfl | rfl <;> assumption⟩
  · exfalso
    simp only [Int.zero_add, Int.reduceAdd] at *
    omega
/-- an item put into a family -/
def ptM (M : List zI) (c w : Int) : List zI := M.map (rg (lgM M)) ++ [(lgM M, c, w)]
/-- items of the groups below g -/
def clt (g : Int) : List zI → Int
  | [] => 0
  | x :: L => (if x.1 < g then 1 else 0) + clt g L
theorem cti_rg {g j : Int} : ∀ {M : List zI}, cti j (M.map (rg g)) = if j < g then 0 else if j = g then clt g M + cti g M else cti j M
  | [] => by simp [cti, clt]
  | x :: M => by
    have ih := cti_rg (g := g) (j := j) (M := M)
    rw [List.map_cons]
    unfold cti clt
    rw [ih]
    unfold rg
    by_cases c : x.1 < g
    · rw [if_pos c]
      dsimp only
      by_cases c1 : j < g
      · rw [if_pos c1, if_pos c1, if_neg (by omega)]; rfl
      · by_cases c2 : j = g
        · rw [if_neg c1, if_neg c1, if_pos c2, if_pos c2, if_pos c2.symm, if_pos c, if_neg (by omega)]; omega
        · rw [if_neg c1, if_neg c1, if_neg c2, if_neg c2, if_neg (by omega), if_neg (by omega)]
    · rw [if_neg c]
      by_cases c1 : j < g
      · rw [if_pos c1, if_pos c1, if_neg (by omega)]; rfl
      · by_cases c2 : j = g
        · rw [if_neg c1, if_neg c1, if_pos c2, if_pos c2, if_neg c]
          subst c2
          omega
        · rw [if_neg c1, if_neg c1, if_neg c2, if_neg c2]
theorem clt_s {g : Int} : ∀ {M : List zI}, clt (g + 1) M = clt g M + cti g M
  | [] => rfl
  | x :: M => by
    have ih := clt_s (g := g) (M := M)
    unfold clt cti
    rw [ih]
    by_cases c : x.1 < g
    · rw [if_pos (by omega), if_pos c, if_neg (by omega)]; omega
    · by_cases c2 : x.1 = g
      · rw [if_pos (by omega), if_neg c, if_pos c2]; omega
      · rw [if_neg (by omega), if_neg c, if_neg c2]; omega
theorem clt_0 : ∀ {M : List zI}, okIs M → clt 0 M = 0
  | [], _ => rfl
  | x :: M, h => by
    have h := okIs_c.mp h
    have h1 := h.1.1
    unfold clt
    rw [clt_0 h.2, if_neg (by omega)]; rfl
theorem okI_rg {g : Int} {x : zI} (hg : 0 ≤ g ∧ g ≤ 6) (h : okI x) : okI (rg g x) := by
  unfold rg
  split
  · exact ⟨hg.1, hg.2, h.2.2⟩
  · exact h
theorem ptM_ok {M : List zI} {c w : Int} (ho : okIs M) (hg : gOK M) (hl : M.length ≤ 48) (hc : wd c) (hw : -99 ≤ w ∧ w ≤ 99) : okIs (ptM M c w) ∧ gOK (ptM M c w) ∧ (ptM M c w).length = M.length + 1 := by
  obtain ⟨l1, l2, l3, l4⟩ := lgM_ok ho hg hl
  refine ⟨?_, ?_, by simp [ptM]⟩
  · intro x hx
    rcases List.mem_append.mp hx with h1 | h1
    · obtain ⟨y, hy, rfl⟩ := List.mem_map.mp h1
      exact okI_rg ⟨l1, l2⟩ (ho y hy)
    · rw [List.mem_singleton.mp h1]
      exact ⟨l1, l2, hc, hw.1, hw.2⟩
  · have hcl : ∀ j : Int, cti j (ptM M c w) = (if j < lgM M then 0 else if j = lgM M then clt (lgM M) M + 1 else cti j M) := by
      intro j
      unfold ptM
      rw [cti_app, cti_rg, cti_1]
      dsimp only
      by_cases c1 : j < lgM M
      · rw [if_pos c1, if_pos c1, if_neg (by omega)]; rfl
      · by_cases c2 : j = lgM M
        · rw [if_neg c1, if_neg c1, if_pos c2, if_pos c2, if_pos c2.symm, l3]; omega
        · rw [if_neg c1, if_neg c1, if_neg c2, if_neg c2, if_neg (by omega)]; omega
    have k0 := clt_0 ho
    have k1 := clt_s (g := 0) (M := M)
    have k2 := clt_s (g := 1) (M := M)
    have k3 := clt_s (g := 2) (M := M)
    have k4 := clt_s (g := 3) (M := M)
    have k5 := clt_s (g := 4) (M := M)
    have k6 := clt_s (g := 5) (M := M)
    simp only [Int.reduceAdd, Int.zero_add] at k1 k2 k3 k4 k5 k6
    have b0 := (cti_b 0 M).1
    have b1 := (cti_b 1 M).1
    have b2 := (cti_b 2 M).1
    have b3 := (cti_b 3 M).1
    have b4 := (cti_b 4 M).1
    have b5 := (cti_b 5 M).1
    unfold gOK at hg ⊢
    obtain ⟨g1, g2, g3, g4, g5, g6⟩ := hg
    simp only [hcl]
    have n0 : lgM M ≤ 0 ∨ 1 ≤ cti 0 M := by
      rcases Int.lt_or_le 0 (lgM M) with q | q
      · have := l4 0 (by omega) q; omega
      · exact Or.inl q
    have n1 : lgM M ≤ 1 ∨ 2 ≤ cti 1 M := by
      rcases Int.lt_or_le 1 (lgM M) with q | q
      · have := l4 1 (by omega) q; omega
      · exact Or.inl q
    have n2 : lgM M ≤ 2 ∨ 3 ≤ cti 2 M := by
      rcases Int.lt_or_le 2 (lgM M) with q | q
      · have := l4 2 (by omega) q; omega
      · exact Or.inl q
    have n3 : lgM M ≤ 3 ∨ 5 ≤ cti 3 M := by
      rcases Int.lt_or_le 3 (lgM M) with q | q
      · have := l4 3 (by omega) q; omega
      · exact Or.inl q
    have n4 : lgM M ≤ 4 ∨ 9 ≤ cti 4 M := by
      rcases Int.lt_or_le 4 (lgM M) with q | q
      · have := l4 4 (by omega) q; omega
      · exact Or.inl q
    have n5 : lgM M ≤ 5 ∨ 17 ≤ cti 5 M := by
      rcases Int.lt_or_le 5 (lgM M) with q | q
      · have := l4 5 (by omega) q; omega
      · exact Or.inl q
    clear l4 hcl
    generalize lgM M = g at *
    rcases (show g = 0 ∨ g = 1 ∨ g = 2 ∨ g = 3 ∨ g = 4 ∨ g = 5 ∨ g = 6 by omega) with rfl | rfl | rfl | rfl | rfl | rfl | rfl
    all_goals
      simp only [Int.reduceLT, Int.reduceEq, if_true, if_false, ↓reduceIte]
      refine ⟨?_, ?_, ?_, ?_, ?_, ?_⟩ <;> first | exact Or.inl trivial | omega
theorem rgl_len {M : List zI} {c w : Int} : (ptM M c w).length = M.length + 1 := by simp [ptM]
/-- sorted lists with the same items are the same -/
theorem srt_eq : ∀ {L1 L2 : List zI}, srtI L1 → srtI L2 → L1.Perm L2 → L1 = L2
  | [], L2, _, _, h => by rw [List.nil_perm.mp h]
  | x :: L1, [], _, _, h => by have := h.length_eq; simp at this
  | x :: L1, y :: L2, h1, h2, h => by
    obtain ⟨a1, a2⟩ := List.pairwise_cons.mp h1
    obtain ⟨b1, b2⟩ := List.pairwise_cons.mp h2
    have hxy : x = y := by
      have hx : x ∈ y :: L2 := h.mem_iff.mp (by simp)
      have hy : y ∈ x :: L1 := h.mem_iff.mpr (by simp)
      rcases List.mem_cons.mp hx with e | hx
      · exact e
      · rcases List.mem_cons.mp hy with e | hy
        · exact e.symm
        · have c1 := b1 x hx
          have c2 := a1 y hy
          unfold ltI at c1 c2
          obtain ⟨x1, x2, x3⟩ := x
          obtain ⟨y1, y2, y3⟩ := y
          dsimp only at c1 c2
          have e1 : x1 = y1 := by omega
          have e2 : x2 = y2 := by omega
          have e3 : x3 = y3 := by omega
          rw [e1, e2, e3]
    subst hxy
    rw [srt_eq a2 b2 (List.Perm.cons_inv h)]
