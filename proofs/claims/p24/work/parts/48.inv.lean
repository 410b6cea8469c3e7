/-! WHAT EVERY DICTIONARY KEEPS: no group above its size; the inserted items are the removed ones and the live words -/
def upB (M : List zI) : Prop := cti 0 M ≤ 1 ∧ cti 1 M ≤ 2 ∧ cti 2 M ≤ 4 ∧ cti 3 M ≤ 8 ∧ cti 4 M ≤ 16 ∧ cti 5 M ≤ 32 ∧ cti 6 M ≤ 64
def okE (S : zDt) : Prop := upB S.2.1 ∧ upB S.2.2.1 ∧ (S.2.1.map Prod.snd).Perm (S.2.2.1.map Prod.snd ++ S.1.map Prod.snd)
theorem ptM_up {M : List zI} {c w : Int} (ho : okIs M) (hg : gOK M) (hl : M.length ≤ 48) (hu : upB M) : upB (ptM M c w) := by
  obtain ⟨l1, l2, l3, -⟩ := lgM_ok ho hg hl
  have hcl : ∀ j : Int, cti j (ptM M c w) = (if j < lgM M then 0 else if j = lgM M then clt (lgM M) M + 1 else cti j M) := by
    intro j
    unfold ptM
    rw [cti_app, cti_rg, cti_1]
    dsimp only
    by_cases c1 : j < lgM M
    · rw [if_pos c1, if_pos c1, if_neg (by omega)]; rfl
    · by_cases c2 : j = lgM M
      · rw [if_neg c1, if_neg c1, if_pos c2, if_pos c2, if_pos c2.symm, l3]; omega
      · rw [if_neg c1, if_neg c1, if_neg c2, if_neg c2, if_neg (by omega)]; omega
  have k0 := clt_0 ho
  have k1 := clt_s (g := 0) (M := M)
  have k2 := clt_s (g := 1) (M := M)
  have k3 := clt_s (g := 2) (M := M)
  have k4 := clt_s (g := 3) (M := M)
  have k5 := clt_s (g := 4) (M := M)
  have k6 := clt_s (g := 5) (M := M)
  simp only [Int.reduceAdd, Int.zero_add] at k1 k2 k3 k4 k5 k6
  unfold upB at hu ⊢
  obtain ⟨u0, u1, u2, u3, u4, u5, u6⟩ := hu
  simp only [hcl]
  clear hcl
  generalize lgM M = g at *
  rcases (show g = 0 ∨ g = 1 ∨ g = 2 ∨ g = 3 ∨ g = 4 ∨ g = 5 ∨ g = 6 by omega) with rfl | rfl | rfl | rfl | rfl | rfl | rfl
  all_goals
    simp only [Int.reduceLT, Int.reduceEq, if_true, if_false, ↓reduceIte]
    refine ⟨?_, ?_, ?_, ?_, ?_, ?_, ?_⟩ <;> omega
theorem ptM_snd {M : List zI} {c w : Int} : ((ptM M c w).map Prod.snd) = M.map Prod.snd ++ [(c, w)] := by
  unfold ptM
  rw [List.map_append, List.map_map]
  congr 1
  apply List.map_congr_left
  intro x hx
  show (rg (lgM M) x).2 = x.2
  unfold rg
  split <;> rfl
theorem upB_map {L : List zI} (hl : L.length ≤ 24) : upB (L.map (fun x => (lgf L.length, x.2))) := by
  unfold upB
  simp only [cti_map]
  unfold lgf
  refine ⟨?_, ?_, ?_, ?_, ?_, ?_, ?_⟩ <;> (repeat' split) <;> omega
theorem upB_nil : upB [] := by unfold upB cti; omega
theorem renS_E {S : zDt} (h3 : S.1.length ≤ 24) : okE (renS S) := by
  refine ⟨upB_map h3, upB_nil, ?_⟩
  show ((S.1.map (fun x => (lgf S.1.length, x.2))).map Prod.snd).Perm ([] ++ S.1.map Prod.snd)
  rw [List.map_map]
  exact List.Perm.refl _
theorem perm_erase {L : List zI} {k : Nat} {x : zI} (hx : L[k]? = some x) : L.Perm (x :: L.eraseIdx k) := by
  induction L generalizing k with
  | nil => simp at hx
  | cons y L ih =>
    cases k with
    | zero => simp at hx; subst hx; exact List.Perm.refl _
    | succ k =>
      rw [List.eraseIdx_cons_succ]
      exact (List.Perm.cons y (ih (by simpa using hx))).trans (List.Perm.swap x y _)
theorem droS_E {S : zDt} {k : Nat} {x : zI} (h : okDt S) (he : okE S) (hx : S.1[k]? = some x) : okE (droS S k x) := by
  obtain ⟨a1, a2, a3, a4, a5, a6, a7, a8, a9, a10, a11⟩ := h
  obtain ⟨e1, e2, e3⟩ := he
  have hk := (List.getElem?_eq_some_iff.mp hx).1
  have el := len_eraseIdx hk
  unfold droS
  split
  · refine ⟨e1, ptM_up a3 a9 (by omega) e2, ?_⟩
    show (S.2.1.map Prod.snd).Perm ((ptM S.2.2.1 x.2.1 x.2.2).map Prod.snd ++ (S.1.eraseIdx k).map Prod.snd)
    rw [ptM_snd, List.append_assoc]
    refine e3.trans (List.Perm.append_left _ ?_)
    exact (perm_erase hx).map Prod.snd
  · exact renS_E (by show (S.1.eraseIdx k).length ≤ 24; omega)
theorem entS_E {S : zDt} {c w : Int} (h : okDt S) (he : okE S) : okE (entS S c w) := by
  obtain ⟨a1, a2, a3, a4, a5, a6, a7, a8, a9, a10, a11⟩ := h
  obtain ⟨e1, e2, e3⟩ := he
  refine ⟨ptM_up a2 a8 (by omega) e1, e2, ?_⟩
  show ((ptM S.2.1 c w).map Prod.snd).Perm (S.2.2.1.map Prod.snd ++ (insL (0, c, w) S.1).map Prod.snd)
  rw [ptM_snd]
  have p1 : ((insL (0, c, w) S.1).map Prod.snd).Perm (S.1.map Prod.snd ++ [(c, w)]) := ((insL_perm (0, c, w) S.1).map Prod.snd).trans (List.perm_append_singleton (c, w) _).symm
  refine (List.Perm.append_right _ e3).trans ?_
  rw [List.append_assoc]
  exact List.Perm.append_left _ p1.symm
def okW (z : zS) : Prop := okZ z ∧ okE z.S ∧ (∀ D ∈ z.H, okE D) ∧ (∀ D, z.I0 = some D → okE D) ∧ (∀ D, z.I1 = some D → okE D)
theorem okW_sp {z : zS} {x : Int} (hz : okW z) : okW (spS z x).2 := by
  obtain ⟨a0, a1, a2, a3, a4⟩ := hz
  refine ⟨okZ_sp a0, ?_⟩
  unfold spS
  split <;> exact ⟨a1, a2, a3, a4⟩
theorem okW_ty {z : zS} (hz : okW z) : okW (tyS z).2 := by
  obtain ⟨a0, a1, a2, a3, a4⟩ := hz
  refine ⟨okZ_ty a0, ?_⟩
  unfold tyS
  split
  · exact ⟨a1, a2, a3, a4⟩
  · split <;> exact ⟨a1, a2, a3, a4⟩
theorem okW_cl {z : zS} (hz : okW z) : okW (clS z).2 := by
  obtain ⟨a0, a1, a2, a3, a4⟩ := hz
  exact ⟨okZ_cl a0, a1, a2, a3, a4⟩
theorem okE_psh {z : zS} (a1 : okE z.S) (a2 : ∀ D ∈ z.H, okE D) : ∀ D ∈ psh z.S z.H, okE D := fun D hD => by
  rcases psh_mem hD with q | q
  · rw [q]; exact a1
  · exact a2 D q
theorem okW_in {z : zS} {w : Int} (hz : okW z) : okW (inS z w).2 := by
  obtain ⟨a0, a1, a2, a3, a4⟩ := hz
  refine ⟨okZ_in a0, ?_⟩
  unfold inS
  split
  · split
    · exact ⟨a1, a2, a3, a4⟩
    · split
      · exact ⟨a1, a2, a3, a4⟩
      · exact ⟨entS_E a0.1 a1, okE_psh a1 a2, a3, a4⟩
  · exact ⟨a1, a2, a3, a4⟩
theorem okW_rm {z : zS} (hz : okW z) : okW (rmS z).2 := by
  obtain ⟨a0, a1, a2, a3, a4⟩ := hz
  refine ⟨okZ_rm a0, ?_⟩
  unfold rmS
  split
  · exact ⟨a1, a2, a3, a4⟩
  next h => exact ⟨droS_E a0.1 a1 (dp_x a0 h).1, okE_psh a1 a2, a3, a4⟩
theorem okW_we {z : zS} {w : Int} (hz : okW z) : okW (weS z w).2 := by
  obtain ⟨a0, a1, a2, a3, a4⟩ := hz
  refine ⟨okZ_we a0, ?_⟩
  unfold weS
  split
  · split
    · exact ⟨a1, a2, a3, a4⟩
    next h => exact ⟨entS_E (droS_ok a0.1 (dp_x a0 h).1) (droS_E a0.1 a1 (dp_x a0 h).1), okE_psh a1 a2, a3, a4⟩
  · exact ⟨a1, a2, a3, a4⟩
theorem okW_rb {z : zS} (hz : okW z) : okW (rbS z).2 := by
  obtain ⟨a0, a1, a2, a3, a4⟩ := hz
  exact ⟨okZ_rb a0, renS_E a0.1.2.2.2.2.1, okE_psh a1 a2, a3, a4⟩
theorem okW_un {z : zS} (hz : okW z) : okW (unS z).2 := by
  obtain ⟨a0, a1, a2, a3, a4⟩ := hz
  refine ⟨okZ_un a0, ?_⟩
  unfold unS
  split
  · exact ⟨a1, a2, a3, a4⟩
  next D H e => exact ⟨a2 D (by rw [e]; simp), fun D' hD => a2 D' (by rw [e]; exact List.mem_cons_of_mem _ hD), a3, a4⟩
theorem okW_ke {z : zS} {i : Int} (hz : okW z) : okW (keS z i).2 := by
  obtain ⟨a0, a1, a2, a3, a4⟩ := hz
  refine ⟨okZ_ke a0, ?_⟩
  unfold keS
  split
  · dsimp only
    split
    · exact ⟨a1, a2, fun D hD => (by cases hD; exact a1), a4⟩
    · exact ⟨a1, a2, a3, fun D hD => (by cases hD; exact a1)⟩
  · exact ⟨a1, a2, a3, a4⟩
theorem okW_ba {z : zS} {i : Int} (hz : okW z) : okW (baS z i).2 := by
  obtain ⟨a0, a1, a2, a3, a4⟩ := hz
  refine ⟨okZ_ba a0, ?_⟩
  unfold baS
  split
  · split
    · exact ⟨a1, a2, a3, a4⟩
    next D e =>
      refine ⟨?_, okE_psh a1 a2, a3, a4⟩
      unfold imS at e
      split at e
      · exact a3 D e
      · exact a4 D e
  · exact ⟨a1, a2, a3, a4⟩
theorem okW_0 : okW z0S := ⟨okZ_0, ⟨upB_nil, upB_nil, List.Perm.refl _⟩, fun D hD => (by cases hD), fun D hD => (by cases hD), fun D hD => (by cases hD)⟩
