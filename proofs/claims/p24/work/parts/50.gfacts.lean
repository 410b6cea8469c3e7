/-! A GROUP'S FACTS -/
/-- the items of a group, in the list's order -/
def sg (g : Int) : List zI → List zI
  | [] => []
  | x :: L => if x.1 = g then x :: sg g L else sg g L
theorem sg_mem {g : Int} {x : zI} : ∀ {L : List zI}, x ∈ sg g L → x ∈ L ∧ x.1 = g
  | [], h => by cases h
  | y :: L, h => by
    unfold sg at h
    split at h
    · rcases List.mem_cons.mp h with rfl | q
      · exact ⟨List.mem_cons_self, by assumption⟩
      · exact ⟨List.mem_cons_of_mem _ (sg_mem q).1, (sg_mem q).2⟩
    · exact ⟨List.mem_cons_of_mem _ (sg_mem h).1, (sg_mem h).2⟩
theorem sg_len {g : Int} : ∀ {L : List zI}, ((sg g L).length : Int) = cti g L
  | [] => rfl
  | x :: L => by
    have ih := sg_len (g := g) (L := L)
    unfold sg cti
    split
    · rw [List.length_cons]; omega
    · omega
theorem sg_srt {g : Int} : ∀ {L : List zI}, srtI L → srtI (sg g L)
  | [], _ => List.Pairwise.nil
  | x :: L, h => by
    obtain ⟨h1, h2⟩ := List.pairwise_cons.mp h
    unfold sg
    split
    · exact List.pairwise_cons.mpr ⟨fun y hy => h1 y (sg_mem hy).1, sg_srt h2⟩
    · exact sg_srt h2
theorem sg_at {g : Int} : ∀ {L : List zI} {k : Nat}, srtI L → (k : Int) < cti g L → L[(sto g L + k).toNat]? = (sg g L)[k]?
  | [], k, _, hk => by unfold cti at hk; omega
  | x :: L, k, h, hk => by
    obtain ⟨h1, h2⟩ := List.pairwise_cons.mp h
    have hge : ∀ y ∈ L, x.1 ≤ y.1 := fun y hy => by have := h1 y hy; unfold ltI at this; omega
    have hb := (sto_b g L).1
    unfold cti at hk
    unfold sto sg
    by_cases c1 : x.1 < g
    · rw [if_pos c1, if_neg (by omega), ← sg_at (k := k) h2 (by rw [if_neg (by omega)] at hk; omega)]
      rw [show (sto g L + 1 + (k : Int)).toNat = (sto g L + k).toNat + 1 by omega, List.getElem?_cons_succ]
    · have e0 : sto g L = 0 := sto_lt (fun y hy => by have := hge y hy; omega)
      rw [if_neg c1]
      by_cases c2 : x.1 = g
      · rw [if_pos c2]
        rw [if_pos c2] at hk
        cases k with
        | zero => rfl
        | succ k =>
          have ih := sg_at (g := g) (k := k) h2 (by omega)
          rw [e0] at ih
          rw [List.getElem?_cons_succ, ← ih, show ((0 : Int) + ((k + 1 : Nat) : Int)).toNat = ((0 : Int) + (k : Int)).toNat + 1 by omega, List.getElem?_cons_succ]
      · have : cti g L = 0 := cti_nil.mpr (fun y hy => by have := hge y hy; omega)
        rw [if_neg c2] at hk
        omega
theorem sg_gI {g k : Int} {L : List zI} (hs : srtI L) (h0 : 0 ≤ k) (hk : k < cti g L) : gI L (sto g L + k) = gI (sg g L) k := by
  have h1 := sg_at (g := g) (k := k.toNat) hs (by omega)
  have hb := (sto_b g L).1
  rw [show ((k.toNat : Nat) : Int) = k by omega] at h1
  unfold gI
  rw [if_pos (by omega), if_pos h0, List.getD_eq_getElem?_getD, List.getD_eq_getElem?_getD, h1]
def nsum : List zI → Int
  | [] => 0
  | x :: L => nd x.2.1 + nsum L
theorem nsum_sg {g : Int} : ∀ {L : List zI}, nsum (sg g L) = lti g L
  | [] => rfl
  | x :: L => by
    have ih := nsum_sg (g := g) (L := L)
    unfold sg lti
    split
    · unfold nsum; rw [ih]
    · rw [ih]; omega
theorem wsum_sg {g : Int} : ∀ {L : List zI}, wsum (sg g L) = wti g L
  | [] => rfl
  | x :: L => by
    have ih := wsum_sg (g := g) (L := L)
    unfold sg wti
    split
    · unfold wsum; rw [ih]
    · rw [ih]; omega
theorem gI_app {P S : List zI} {x : zI} : gI (P ++ x :: S) (P.length : Int) = x := by
  unfold gI
  rw [if_pos (by omega), List.getD_eq_getElem?_getD, Int.toNat_natCast, List.getElem?_append_right (Nat.le_refl _), Nat.sub_self]
  rfl
theorem nsum_app {P S : List zI} : nsum (P ++ S) = nsum P + nsum S := by
  induction P with
  | nil => show nsum S = 0 + nsum S; omega
  | cons x P ih => show nd x.2.1 + nsum (P ++ S) = nd x.2.1 + nsum P + nsum S; omega
theorem wsum_app {P S : List zI} : wsum (P ++ S) = wsum P + wsum S := by
  induction P with
  | nil => show wsum S = 0 + wsum S; omega
  | cons x P ih => show x.2.2 + wsum (P ++ S) = x.2.2 + wsum P + wsum S; omega
theorem nsum_b {L : List zI} (ho : okIs L) : 0 ≤ nsum L ∧ nsum L ≤ 6 * (L.length : Int) := by
  induction L with
  | nil => exact ⟨Int.le_refl _, by simp [nsum]⟩
  | cons x L ih =>
    have ho := okIs_c.mp ho
    have h1 := wd_nd ho.1.2.2.1
    have ih := ih ho.2
    rw [List.length_cons]
    unfold nsum
    omega
theorem wsum_b {L : List zI} (ho : okIs L) : -99 * (L.length : Int) ≤ wsum L ∧ wsum L ≤ 99 * (L.length : Int) := by
  induction L with
  | nil => simp [wsum]
  | cons x L ih =>
    have ho := okIs_c.mp ho
    have h1 := ho.1.2.2.2
    have ih := ih ho.2
    rw [List.length_cons]
    unfold wsum
    omega
theorem layF_lti {g : Int} : ∀ (F : List zI) (N : List Int), okIs F → ((layF g F N).length : Int) ≤ N.length + lti g F
  | [], N, _ => by unfold layF lti; omega
  | x :: F, N, ho => by
    have ho := okIs_c.mp ho
    have hn := nd_nn x.2.1
    unfold layF lti
    refine Int.le_trans (layF_lti F _ ho.2) ?_
    split
    · have := layX_len (g := g) (x := x) (nd x.2.1).toNat N; omega
    · omega
theorem sfl_b {p : Int → Prop} [DecidablePred p] : ∀ {L : List Int}, (∀ c ∈ L, nd c ≤ 6) → sfl p L ≤ 5 * (L.length : Int)
  | [], _ => by simp [sfl]
  | c :: L, h => by
    have ih := sfl_b (p := p) (L := L) (fun d hd => h d (List.mem_cons_of_mem _ hd))
    have h1 := h c List.mem_cons_self
    have h2 := fal_b p c (nd c - 1).toNat
    rw [sfl_c, List.length_cons]
    omega
theorem sfl_nn {p : Int → Prop} [DecidablePred p] : ∀ {L : List Int}, 0 ≤ sfl p L
  | [] => Int.le_refl _
  | c :: L => by have := sfl_nn (p := p) (L := L); rw [sfl_c]; omega
theorem layF_nd {g : Int} {F : List zI} (ho : okIs F) : ∀ c ∈ layF g F [], nd c ≤ 6 := by
  intro c hc
  rcases ((layF_ok (g := g) F [] ho List.nodup_nil).2 c).mp hc with q | ⟨q0, x, hx, -, i, q2⟩
  · cases q
  · have hw := ho x hx
    have h1 := hw.2.2.1
    unfold wd at h1
    have h2 : c ≤ x.2.1 := by
      rw [q2]
      exact Int.ediv_le_self _ (by omega)
    exact nd_6 (by omega)
theorem cti_len {g : Int} : ∀ {L : List zI}, cti g L ≤ (L.length : Int)
  | [] => Int.le_refl _
  | x :: L => by
    have := cti_len (g := g) (L := L)
    unfold cti
    rw [List.length_cons]
    split <;> omega
/-- what a group of a good state answers -/
theorem fam_ok {z : zS} {f : Int} (hz : okW z) (hf : 0 ≤ f ∧ f ≤ 1) : okIs (famS z f) ∧ (famS z f).length ≤ 48 ∧ upB (famS z f) ∧ toS z (1 + f) = ((famS z f).length : Int) := by
  obtain ⟨⟨⟨a1, a2, a3, a4, a5, a6, a7, a8, a9, a10, a11⟩, -⟩, ⟨e1, e2, e3⟩, -⟩ := hz
  unfold famS
  rcases (show f = 0 ∨ f = 1 by omega) with rfl | rfl
  · rw [if_pos rfl]
    exact ⟨a2, by omega, e1, rfl⟩
  · rw [if_neg (by omega)]
    exact ⟨a3, by omega, e2, rfl⟩
def tw (g : Int) : Int := (Int32.ofInt 1 <<< (Int32.ofInt g &&& 31)).toInt
theorem tw_up {M : List zI} {g : Int} (hu : upB M) (hg : 0 ≤ g ∧ g ≤ 6) : cti g M ≤ tw g := by
  obtain ⟨u0, u1, u2, u3, u4, u5, u6⟩ := hu
  have t0 : tw 0 = 1 := by decide
  have t1 : tw 1 = 2 := by decide
  have t2 : tw 2 = 4 := by decide
  have t3 : tw 3 = 8 := by decide
  have t4 : tw 4 = 16 := by decide
  have t5 : tw 5 = 32 := by decide
  have t6 : tw 6 = 64 := by decide
  rcases (show g = 0 ∨ g = 1 ∨ g = 2 ∨ g = 3 ∨ g = 4 ∨ g = 5 ∨ g = 6 by omega) with rfl | rfl | rfl | rfl | rfl | rfl | rfl <;> omega
/-- the group's list -/
def sgS (z : zS) (f g : Int) : List zI := sg g (srtF (famS z f))
theorem grp_ok {z : zS} {f g : Int} (hz : okW z) (hf : 0 ≤ f ∧ f ≤ 1) (hg : 0 ≤ g ∧ g ≤ 6) :
    okIs (sgS z f g) ∧ srtI (sgS z f g) ∧ (∀ x ∈ sgS z f g, x.1 = g) ∧ (sgS z f g).length ≤ 48 ∧ grS z f g 0 = ((sgS z f g).length : Int) ∧ ((sgS z f g).length : Int) = cti g (famS z f) ∧
    (∀ k, 0 ≤ k → k < ((sgS z f g).length : Int) → itS z f g k 0 = (gI (sgS z f g) k).2.1 ∧ itS z f g k 1 = (gI (sgS z f g) k).2.2) ∧ itS z f g ((sgS z f g).length : Int) 0 = -9999 ∧
    grS z f g 2 = nsum (sgS z f g) ∧ grS z f g 4 = wsum (sgS z f g) ∧ ((sgS z f g).length : Int) ≤ tw g ∧ ((((sgS z f g).length : Int) = 0) ↔ grS z f g 1 = 0) ∧ 0 ≤ grS z f g 1 ∧ grS z f g 1 ≤ 300 ∧ grS z f g 1 ≤ nsum (sgS z f g) + 1 ∧ grS z f g 3 ≤ 5 * grS z f g 1 := by
  obtain ⟨o1, o2, o3, -⟩ := fam_ok hz hf
  have hp := srtF_perm (famS z f)
  have hs := srtF_srt (famS z f)
  have ho := okIs_perm hp.symm o1
  have hl : ((sgS z f g).length : Int) = cti g (famS z f) := sg_len.trans (cti_perm hp)
  have hcl := cti_len (g := g) (L := famS z f)
  have hcb := (cti_b g (famS z f)).1
  have hL : lti g (famS z f) = nsum (sgS z f g) := (lti_perm hp).symm.trans nsum_sg.symm
  have hW : wti g (famS z f) = wsum (sgS z f g) := (wti_perm hp).symm.trans wsum_sg.symm
  have g1 : grS z f g 1 = if cti g (famS z f) = 0 then 0 else 1 + ((layF g (famS z f) []).length : Int) := by
    unfold grS
    rw [if_pos ⟨⟨hf, hg⟩, by omega, by omega⟩, if_neg (by omega), if_pos rfl]
  have g3 : grS z f g 3 = sfl (fun c => isN (famS z f) g c = true) (layF g (famS z f) []) := by
    unfold grS
    rw [if_pos ⟨⟨hf, hg⟩, by omega, by omega⟩, if_neg (by omega), if_neg (by omega), if_neg (by omega), if_pos rfl]
  have hlay := layF_lti (g := g) (famS z f) [] o1
  have hlay2 := layF_len (g := g) (famS z f) [] o1
  rw [List.length_nil] at hlay hlay2
  have hsf := sfl_b (p := fun c => isN (famS z f) g c = true) (layF_nd (g := g) o1)
  have hnn := (nsum_b (L := sgS z f g) (fun x hx => ho x (sg_mem hx).1)).1
  have h00 : cti g (famS z f) = 0 → layF g (famS z f) [] = [] := by
    intro q
    cases hl : layF g (famS z f) [] with
    | nil => rfl
    | cons d N' =>
      rcases ((layF_ok (g := g) (famS z f) [] o1 List.nodup_nil).2 d).mp (by rw [hl]; simp) with r | ⟨-, x, hx, hg, -⟩
      · cases r
      · exact absurd hg (cti_nil.mp q x hx)
  refine ⟨fun x hx => ho x (sg_mem hx).1, sg_srt hs, fun x hx => (sg_mem hx).2, by omega, ?_, hl, fun k h0 hk => ⟨?_, ?_⟩, ?_, ?_, ?_, ?_, ?_, ?_, ?_, ?_, ?_⟩
  · unfold grS
    rw [if_pos ⟨⟨hf, hg⟩, by omega, by omega⟩, if_pos rfl, hl]
  · unfold itS
    rw [if_pos ⟨⟨hf, hg⟩, h0, by omega, by omega⟩, if_neg (by omega), if_pos rfl, sg_gI hs h0 (by rw [cti_perm hp]; omega)]
    rfl
  · unfold itS
    rw [if_pos ⟨⟨hf, hg⟩, h0, by omega, by omega⟩, if_neg (by omega), if_neg (by omega), sg_gI hs h0 (by rw [cti_perm hp]; omega)]
    rfl
  · unfold itS
    rw [if_pos ⟨⟨hf, hg⟩, by omega, by omega, by omega⟩, if_pos (by omega)]
  · unfold grS
    rw [if_pos ⟨⟨hf, hg⟩, by omega, by omega⟩, if_neg (by omega), if_neg (by omega), if_pos rfl, hL]
  · unfold grS
    rw [if_pos ⟨⟨hf, hg⟩, by omega, by omega⟩, if_neg (by omega), if_neg (by omega), if_neg (by omega), if_neg (by omega), hW]
  · rw [hl]; exact tw_up o3 hg
  · rw [g1, hl]
    split
    · constructor <;> intro <;> omega
    · constructor <;> intro <;> omega
  · rw [g1]; split <;> omega
  · rw [g1]; split <;> omega
  · rw [g1]; split <;> omega
  · rw [g1, g3]
    split
    next q =>
      rw [h00 q] at hsf ⊢
      exact hsf
    next => omega
/-- order in a group -/
theorem grp_le {N : List zI} {g : Int} {k : Int} (hs : srtI N) (hg : ∀ x ∈ N, x.1 = g) (h0 : 0 < k) (hk : k < (N.length : Int)) : (gI N (k - 1)).2.1 < (gI N k).2.1 ∨ ((gI N (k - 1)).2.1 = (gI N k).2.1 ∧ (gI N (k - 1)).2.2 ≤ (gI N k).2.2) := by
  obtain ⟨a1, a2⟩ := gI_mem (L := N) (k := k - 1) (by omega) (by omega)
  obtain ⟨b1, b2⟩ := gI_mem (L := N) (k := k) (by omega) hk
  obtain ⟨x1, x2⟩ := List.getElem?_eq_some_iff.mp a1
  obtain ⟨y1, y2⟩ := List.getElem?_eq_some_iff.mp b1
  have := List.pairwise_iff_getElem.mp hs _ _ x1 y1 (by omega)
  rw [x2, y2] at this
  have e1 := hg _ a2
  have e2 := hg _ b2
  unfold ltI at this
  omega
