/-! ONE STEP AS A THING: on, a call, an end, or stuck; what a step keeps -/
abbrev zP : Type := (Nat × zL × List zV × zH) ⊕ (Nat × List zV × List zV) ⊕ Option zV ⊕ Unit
def zexR (i : Nat) (ls : zL) (st : List zV) (h : zH) (sc : Nat × (Int → Int)) (op : Op) : zP := zex i ls st h (fun a b c d => .inl (a, b, c, d)) (fun a b c => .inr (.inl (a, b, c))) (fun r => .inr (.inr (.inl r))) (.inr (.inr (.inr ()))) sc op
def zel {α : Type} (nx : Nat → zL → List zV → zH → α) (cl : Nat → List zV → List zV → α) (rt : Option zV → α) (bad : α) : zP → α
  | .inl (a, b, c, d) => nx a b c d
  | .inr (.inl (a, b, c)) => cl a b c
  | .inr (.inr (.inl r)) => rt r
  | .inr (.inr (.inr ())) => bad
section NAT
variable {α : Type} {i : Nat} {ls : zL} {st : List zV} {h : zH} {nx : Nat → zL → List zV → zH → α} {cl : Nat → List zV → List zV → α} {rt : Option zV → α} {bad : α}
theorem swK_el {β : Type} (g : β → α) (x : Int) (f : Nat → β) (d : Nat) : ∀ tb : List (Int × Nat), swK tb x (fun t => g (f t)) d = g (swK tb x f d)
  | [] => rfl
  | (k, t) :: r => by
    unfold swK
    split
    · rfl
    · exact swK_el g x f d r
set_option maxHeartbeats 4000000 in
theorem zex_el (sc : Nat × (Int → Int)) (op : Op) : zex i ls st h nx cl rt bad sc op = zel nx cl rt bad (zexR i ls st h sc op) := by
  unfold zexR zex
  split
  case h_32 => unfold x_sw; split <;> first | exact swK_el (zel nx cl rt bad) _ (fun t => (.inl (t, ls, _, h) : zP)) _ _ | rfl
  all_goals first
    | rfl
    | (unfold x_iload; split <;> simp_all [zel]; done)
    | (unfold x_aload; split <;> simp_all [zel]; done)
    | (unfold x_istore; split <;> simp_all [zel]; done)
    | (unfold x_astore; split <;> simp_all [zel]; done)
    | (unfold x_iinc; split <;> simp_all [zel]; done)
    | (unfold x_bin; split <;> simp_all [zel]; done)
    | (unfold x_binS; split <;> (try split) <;> simp_all [zel]; done)
    | (unfold x_binC; split <;> (try split) <;> simp_all [zel]; done)
    | (unfold x_if; split <;> (try split) <;> simp_all [zel]; done)
    | (unfold x_icmp; split <;> (try split) <;> simp_all [zel]; done)
    | (unfold x_getf getK; split <;> (try split) <;> (try split) <;> (try split) <;> simp_all [zel]; done)
    | (unfold x_putf putK; split <;> (try split) <;> (try split) <;> (try split) <;> simp_all [zel]; done)
    | (unfold x_iald ialK; split <;> (try split) <;> (try split) <;> simp_all [zel]; done)
    | (unfold x_iast iasK; split <;> (try split) <;> (try split) <;> simp_all [zel]; done)
    | (unfold x_aald aalK; split <;> (try split) <;> (try split) <;> simp_all [zel]; done)
    | (unfold x_aast aasK; split <;> (try split) <;> (try split) <;> simp_all [zel]; done)
    | (unfold x_alen alnK; split <;> (try split) <;> simp_all [zel]; done)
    | (unfold x_newa; split <;> (try split) <;> simp_all [zel]; done)
    | (unfold x_anew; split <;> (try split) <;> simp_all [zel]; done)
    | (unfold x_dup; split <;> simp_all [zel]; done)
    | (unfold x_pop; split <;> simp_all [zel]; done)
    | (unfold x_dup2; split <;> simp_all [zel]; done)
    | (unfold x_ifnull; split <;> simp_all [zel]; done)
    | (unfold x_ifnonnull; split <;> simp_all [zel]; done)
    | (unfold x_calls; split <;> simp_all [zel]; done)
    | (unfold x_callv; split <;> simp_all [zel]; done)
    | (unfold x_vret; split <;> simp_all [zel]; done)
    | (unfold x_iret; split <;> simp_all [zel]; done)
    | (unfold x_zret; split <;> (try split) <;> simp_all [zel]; done)
    | (unfold x_aret; split <;> simp_all [zel]; done)
    | (unfold x_fret; split <;> simp_all [zel]; done)
    | (unfold x_oinit; split <;> (try split) <;> simp_all [zel]; done)
    | (unfold x_i2f; split <;> simp_all [zel]; done)
    | (unfold x_fdiv; split <;> (try split) <;> simp_all [zel]; done)
    | (unfold x_f2d; split <;> (try split) <;> simp_all [zel]; done)
    | (unfold x_dcmp; split <;> simp_all [zel]; done)
    | (unfold x_fcmp; split <;> simp_all [zel]; done)
    | (unfold x_dload; split <;> simp_all [zel]; done)
    | (unfold x_dstore; split <;> simp_all [zel]; done)
end NAT
/-- what the tables say of an instruction, for the values' sake -/
def zopk (ds : List Nat) (op : Op) : Bool := (op.1 != 0 || decide (-2147483648 ≤ op.2.1 ∧ op.2.1 ≤ 2147483647)) && ((op.1 != 39 || ds.contains op.2.2.1) && (op.1 != 17 || decide (op.2.2.1 < 6)))
set_option maxRecDepth 100000 in
theorem opk_all : (List.range 97).all (fun m => (pgm.getD m []).all (fun op => zopk (zds m) op)) = true := by decide +kernel
theorem opk (m i : Nat) : zopk (zds m) (zfe m i) = true := by
  unfold zfe
  rw [List.getD_eq_getElem?_getD (l := pgm.getD m [])]
  cases hl : (pgm.getD m [])[i]? with
  | none => rfl
  | some op =>
    rcases Nat.lt_or_ge m 97 with q | q
    · exact List.all_eq_true.mp (List.all_eq_true.mp opk_all m (List.mem_range.mpr q)) op (List.mem_of_getElem? hl)
    · rw [List.getD_eq_getElem?_getD (l := pgm), List.getElem?_eq_none (l := pgm) (i := m) (by rw [ck_len]; exact q)] at hl
      cases hl
theorem newF_ok {n ci : Nat} (hc : ci < 6) : (newF ci).length = (zT ci).2.2 ∧ ∀ (j : Nat) (v : zV), (newF ci)[j]? = some v → okF ci j v = true ∧ okV false n v := by
  obtain ⟨h1, h2⟩ := zT_ok hc
  refine ⟨by rw [newF, List.length_map]; exact h1, fun j v hj => ?_⟩
  rw [newF, List.getElem?_map] at hj
  cases hf : (fkt.getD ci [])[j]? with
  | none => rw [hf] at hj; cases hj
  | some k =>
    rw [hf] at hj
    have hv : (if k = 0 then aI 0 else aN) = v := Option.some.inj hj
    have hk : (fkt.getD ci []).getD j 9 = k := by rw [List.getD_eq_getElem?_getD, hf]; rfl
    have hjl : j < (zT ci).2.2 := by rw [← h1]; exact (List.getElem?_eq_some_iff.mp hf).1
    unfold okF
    rcases (h2 j hjl).2 with ⟨a, -⟩ | ⟨a, -⟩
    · rw [a] at hk; subst hk
      rw [a]; rw [if_pos rfl] at hv; subst hv
      exact ⟨rfl, inR_0⟩
    · rw [a] at hk; subst hk
      rw [a]; rw [if_neg (by omega)] at hv; subst hv
      exact ⟨rfl, trivial⟩
def okP (hs : Bool) (ds : List Nat) (ls : zL) (h : zH) : zP → Prop
  | .inl (_, ls', st', h') => okH h' ∧ okL hs h'.1 ds ls' ∧ okS hs h'.1 st' ∧ h.1 ≤ h'.1 ∧ h.2.1 ≤ h'.2.1 ∧ ls'.length = ls.length
  | .inr (.inl (_, as, st')) => okS hs h.1 as ∧ (∀ v ∈ as, zplain v = true) ∧ okS hs h.1 st'
  | .inr (.inr (.inl r)) => ∀ v, r = some v → okV false h.1 v
  | .inr (.inr (.inr ())) => True
theorem okL_set {hs : Bool} {n i : Nat} {ds : List Nat} {ls : zL} {v : zV} (h : okL hs n ds ls) (hv : okV hs n v) (hd : dbl v = true → i ∈ ds) : okL hs n ds (ls.set i (some v)) := by
  intro j w hj
  rw [List.getElem?_set] at hj
  split at hj
  next e =>
    split at hj
    · cases hj; exact ⟨hv, fun q => e ▸ hd q⟩
    · cases hj
  next => exact h j w hj
theorem okL_none {hs : Bool} {n i : Nat} {ds : List Nat} {ls : zL} (h : okL hs n ds ls) : okL hs n ds (ls.set i none) := by
  intro j w hj
  rw [List.getElem?_set] at hj
  split at hj
  next e =>
    split at hj
    · cases hj
    · cases hj
  next => exact h j w hj
theorem okH_u {h : zH} {k : Nat} {c : zC} (ho : okH h) (hc : okC h.1 c) : okH (zuH h k c) := by
  intro j hj
  rw [zgt_u]
  split
  · exact hc
  · exact ho j hj
theorem okH_a {h : zH} {n : Nat} {c : zC} (ho : okH h) (hc : okC (h.1 + 1) c) : okH (zaH h n c) := by
  intro j hj
  rw [zgt_a]
  split
  · exact hc
  · exact okC_mono (ho j (by have : j < h.1 + 1 := hj; omega)) (Nat.le_succ _)
theorem okV_f {hs : Bool} {n : Nat} {v : zV} (h : okV false n v) : okV hs n v := by
  rcases v with z | (_ | k) | b | b | u
  · exact h
  · exact h
  · exact h
  · exact h
  · exact h
  · cases h
theorem okV_p {hs : Bool} {n : Nat} {v : zV} (h : okV hs n v) (hp : zplain0 v = true) : okV false n v := by
  rcases v with z | (_ | k) | b | b | u
  · exact h
  · exact h
  · exact h
  · cases hp
  · cases hp
  · cases hp
theorem okF_p {ci j : Nat} {v : zV} (h : okF ci j v = true) : zplain0 v = true := by
  unfold okF at h
  rcases v with z | (_ | k) | b | b | u
  · rfl
  · rfl
  · rfl
  · split at h <;> simp_all
  · split at h <;> simp_all
  · split at h <;> simp_all
theorem okS_tl {hs : Bool} {n : Nat} {v : zV} {st : List zV} (h : okS hs n (v :: st)) : okV hs n v ∧ okS hs n st := ⟨h v List.mem_cons_self, fun w hw => h w (List.mem_cons_of_mem _ hw)⟩
theorem okS_c {hs : Bool} {n : Nat} {v : zV} {st : List zV} (h1 : okV hs n v) (h : okS hs n st) : okS hs n (v :: st) := by
  intro w hw
  rcases List.mem_cons.mp hw with rfl | hw
  · exact h1
  · exact h w hw
section OK
variable {hs : Bool} {ds : List Nat} {ls : zL} {h : zH} {st : List zV} {i : Nat} {sc : Nat × (Int → Int)}
theorem okP_nx {i' : Nat} {st' : List zV} (hH : okH h) (hL : okL hs h.1 ds ls) (hS : okS hs h.1 st') : okP hs ds ls h (.inl (i', ls, st', h)) := ⟨hH, hL, hS, Nat.le_refl _, Nat.le_refl _, rfl⟩
theorem okP_ls {i' : Nat} {st' : List zV} {ls' : zL} (hH : okH h) (hL : okL hs h.1 ds ls') (hS : okS hs h.1 st') (hl : ls'.length = ls.length) : okP hs ds ls h (.inl (i', ls', st', h)) := ⟨hH, hL, hS, Nat.le_refl _, Nat.le_refl _, hl⟩
theorem okP_u {i' k : Nat} {c : zC} {st' : List zV} (hH : okH (zuH h k c)) (hL : okL hs h.1 ds ls) (hS : okS hs h.1 st') : okP hs ds ls h (.inl (i', ls, st', zuH h k c)) := ⟨hH, hL, hS, Nat.le_refl _, Nat.le_refl _, rfl⟩
theorem okP_a {i' n : Nat} {c : zC} {st' : List zV} (hH : okH (zaH h n c)) (hL : okL hs h.1 ds ls) (hS : okS hs (h.1 + 1) st') : okP hs ds ls h (.inl (i', ls, st', zaH h n c)) := ⟨hH, okL_mono hL (Nat.le_succ _), hS, Nat.le_succ _, Nat.le_add_right _ _, rfl⟩
theorem swK_P {P : zP → Prop} {x : Int} {f : Nat → zP} {d : Nat} (hf : ∀ t, P (f t)) : ∀ tb : List (Int × Nat), P (swK tb x f d)
  | [] => hf d
  | (k, t) :: r => by
    unfold swK
    split
    · exact hf t
    · exact swK_P hf r
set_option maxHeartbeats 4000000 in
theorem zexR_ok {op : Op} (hop : zopk ds op = true) (hsc : ∀ x, inR (sc.2 x)) (hsl : sc.1 < 2147483648) (hH : okH h) (hL : okL hs h.1 ds ls) (hS : okS hs h.1 st) (hk : ∀ k c, zgt h k = c → (∃ v ∈ st, v = aR k) → okC h.1 c) : okP hs ds ls h (zexR i ls st h sc op) := by
  simp only [zopk, Bool.and_eq_true, Bool.or_eq_true, bne_iff_ne, decide_eq_true_eq, List.contains_iff_mem] at hop
  obtain ⟨o1, o2, o3⟩ := hop
  unfold zexR zex
  split
  next e => exact okP_nx hH hL (okS_c (o1.resolve_left (by omega)) hS)
  next => unfold x_iload; split
          next z hz => exact okP_nx hH hL (okS_c (hL _ _ hz).1 hS)
          next => trivial
  next => unfold x_istore; split
          next z st' => exact okP_ls hH (okL_set hL (okS_tl hS).1 (fun q => by cases q)) (okS_tl hS).2 (List.length_set ..)
          next => trivial
  next => unfold x_iinc; split
          next x hz => exact okP_ls hH (okL_set hL (inR_wr _) (fun q => by cases q)) hS (List.length_set ..)
          next => trivial
  next => unfold x_aload; split
          next r hz => exact okP_nx hH hL (okS_c (hL _ _ hz).1 hS)
          next hz => exact okP_nx hH hL (okS_c (hL _ _ hz).1 hS)
          next => trivial
  next => unfold x_astore; split
          next r st' => exact okP_ls hH (okL_set hL (okS_tl hS).1 (fun q => by cases q)) (okS_tl hS).2 (List.length_set ..)
          next => trivial
  next => exact okP_nx hH hL hS
  next => unfold x_getf; split
          next k st' =>
            unfold getK; split
            next c fs hg =>
              split
              next =>
                split
                next v hv =>
                  have hc := hk k _ hg ⟨_, List.mem_cons_self, rfl⟩
                  exact okP_nx hH hL (okS_c (okV_f (hc.2.2 _ _ hv).2) (okS_tl hS).2)
                next => trivial
              next => trivial
            next => trivial
          next => trivial
  next => unfold x_putf; split
          next v k st' =>
            split
            next hf =>
              unfold putK; split
              next c fs hg =>
                split
                next hci =>
                  have hc := hk k _ hg ⟨_, List.mem_cons_of_mem _ List.mem_cons_self, rfl⟩
                  refine okP_u (okH_u hH ⟨hc.1, by rw [List.length_set]; exact hc.2.1, fun j w hj => ?_⟩) hL (okS_tl (okS_tl hS).2).2
                  rw [List.getElem?_set] at hj
                  split at hj
                  next e =>
                    split at hj
                    · cases hj; rw [← e, hci]; exact ⟨hf, okV_p (okS_tl hS).1 (okF_p hf)⟩
                    · cases hj
                  next => exact hc.2.2 j w hj
                next => trivial
              next => trivial
            next => trivial
          next => trivial
  next => unfold x_iald; split
          next x k st' =>
            unfold ialK; split
            next n g hg =>
              split
              next =>
                have hc := hk k _ hg ⟨_, List.mem_cons_of_mem _ List.mem_cons_self, rfl⟩
                exact okP_nx hH hL (okS_c (hc.2 _) (okS_tl (okS_tl hS).2).2)
              next => trivial
            next => trivial
          next x st' =>
            split
            next => exact okP_nx hH hL (okS_c (hsc _) (okS_tl (okS_tl hS).2).2)
            next => trivial
          next => trivial
  next => unfold x_iast; split
          next z x k st' =>
            unfold iasK; split
            next n g hg =>
              split
              next =>
                have hc := hk k _ hg ⟨_, List.mem_cons_of_mem _ (List.mem_cons_of_mem _ List.mem_cons_self), rfl⟩
                refine okP_u (okH_u hH ⟨hc.1, fun j => ?_⟩) hL (okS_tl (okS_tl (okS_tl hS).2).2).2
                unfold zup
                split
                · exact (okS_tl hS).1
                · exact hc.2 j
              next => trivial
            next => trivial
          next => trivial
  next => unfold x_aald; split
          next x k st' =>
            unfold aalK; split
            next n g hg =>
              split
              next =>
                have hc := hk k _ hg ⟨_, List.mem_cons_of_mem _ List.mem_cons_self, rfl⟩
                refine okP_nx hH hL (okS_c ?_ (okS_tl (okS_tl hS).2).2)
                cases hq : g x with
                | none => trivial
                | some y => exact hc.2 _ _ hq
              next => trivial
            next => trivial
          next => trivial
  next => unfold x_aast; split
          next v x k st' =>
            unfold aasK; split
            next n g hg =>
              split
              next =>
                have hc := hk k _ hg ⟨_, List.mem_cons_of_mem _ (List.mem_cons_of_mem _ List.mem_cons_self), rfl⟩
                refine okP_u (okH_u hH ⟨hc.1, fun j y hy => ?_⟩) hL (okS_tl (okS_tl (okS_tl hS).2).2).2
                unfold zup at hy
                split at hy
                · cases hy; exact (okS_tl hS).1
                · exact hc.2 j y hy
              next => trivial
            next => trivial
          next => trivial
  next => unfold x_alen; split
          next k st' =>
            unfold alnK; split
            next n f hg =>
              have hc := hk k _ hg ⟨_, List.mem_cons_self, rfl⟩
              refine okP_nx hH hL (okS_c ?_ (okS_tl hS).2)
              have := hc.1
              show inR _
              unfold inR; omega
            next => trivial
          next st' =>
            refine okP_nx hH hL (okS_c ?_ (okS_tl hS).2)
            show inR _
            unfold inR; omega
          next => trivial
  next => unfold x_newa; split
          next n st' =>
            split
            next q => exact okP_a (okH_a hH ⟨by omega, fun _ => inR_0⟩) hL (okS_c (Nat.lt_succ_self _) (okS_mono (okS_tl hS).2 (Nat.le_succ _)))
            next => trivial
          next => trivial
  next => unfold x_anew; split
          next n st' =>
            split
            next q => exact okP_a (okH_a hH ⟨by omega, fun _ _ q => by cases q⟩) hL (okS_c (Nat.lt_succ_self _) (okS_mono (okS_tl hS).2 (Nat.le_succ _)))
            next => trivial
          next => trivial
  next => unfold x_new
          have hci := o3.resolve_left (by omega)
          exact okP_a (okH_a hH ⟨hci, (newF_ok (n := h.1 + 1) hci).1, (newF_ok hci).2⟩) hL (okS_c (Nat.lt_succ_self _) (okS_mono hS (Nat.le_succ _)))
  next => unfold x_dup; split
          next z st' => exact okP_nx hH hL (okS_c (okS_tl hS).1 hS)
          next z st' => exact okP_nx hH hL (okS_c (okS_tl hS).1 hS)
          next => trivial
  next => unfold x_pop; split
          next z st' => exact okP_nx hH hL (okS_tl hS).2
          next z st' => exact okP_nx hH hL (okS_tl hS).2
          next => trivial
  next => unfold x_dup2; split
          next z r st' => exact okP_nx hH hL (okS_c (okS_tl hS).1 (okS_c (okS_tl (okS_tl hS).2).1 hS))
          next => trivial
  next => unfold x_ifnull; split
          next st' => exact okP_nx hH hL (okS_tl hS).2
          next z st' => exact okP_nx hH hL (okS_tl hS).2
          next => trivial
  next => unfold x_ifnonnull; split
          next st' => exact okP_nx hH hL (okS_tl hS).2
          next z st' => exact okP_nx hH hL (okS_tl hS).2
          next => trivial
  next => unfold x_calls; split
          next q =>
            have hp := List.all_eq_true.mp q.2
            exact ⟨fun v hv => hS v (List.mem_of_mem_take (List.mem_reverse.mp hv)), fun v hv => hp v (List.mem_reverse.mp hv), fun v hv => hS v (List.mem_of_mem_drop hv)⟩
          next => trivial
  next => unfold x_callv; split
          next q =>
            have hp := List.all_eq_true.mp q.1.2
            exact ⟨fun v hv => hS v (List.mem_of_mem_take (List.mem_reverse.mp hv)), fun v hv => hp v (List.mem_reverse.mp hv), fun v hv => hS v (List.mem_of_mem_drop hv)⟩
          next => trivial
  next => unfold x_callv; split
          next q =>
            have hp := List.all_eq_true.mp q.1.2
            exact ⟨fun v hv => hS v (List.mem_of_mem_take (List.mem_reverse.mp hv)), fun v hv => hp v (List.mem_reverse.mp hv), fun v hv => hS v (List.mem_of_mem_drop hv)⟩
          next => trivial
  next => unfold x_vret; split
          next => exact fun v hv => by cases hv
          next => trivial
  next => unfold x_iret; split
          next => exact fun v hv => by cases hv; exact okV_p (okS_tl hS).1 rfl
          next => trivial
  next => unfold x_zret; split
          next => split
                  next => exact fun v hv => by cases hv; exact okV_p (okS_tl hS).1 rfl
                  next => trivial
          next => trivial
  next => unfold x_aret; split
          next => exact fun v hv => by cases hv; exact okV_p (okS_tl hS).1 rfl
          next => trivial
  next => unfold x_fret; split
          next => exact fun v hv => by cases hv; trivial
          next => trivial
  next => unfold x_oinit; split
          next => split
                  next => exact okP_nx hH hL (okS_tl hS).2
                  next => trivial
          next => trivial
  next => unfold x_sw; split
          next => exact swK_P (fun t => okP_nx hH hL (okS_tl hS).2) _
          next => trivial
  next => unfold x_i2f; split
          next => exact okP_nx hH hL (okS_c trivial (okS_tl hS).2)
          next => trivial
  next => unfold x_fdiv; split
          next => split
                  next => exact okP_nx hH hL (okS_c trivial (okS_tl (okS_tl hS).2).2)
                  next => trivial
          next => trivial
  next => unfold x_f2d; split
          next => split
                  next => exact okP_nx hH hL (okS_c trivial (okS_tl hS).2)
                  next => trivial
          next => trivial
  next => unfold x_dcmp; split
          next => exact okP_nx hH hL (okS_c (zi_in _) (okS_tl (okS_tl hS).2).2)
          next => trivial
  next => exact okP_nx hH hL (okS_c trivial hS)
  next => unfold x_dload; split
          next => exact okP_nx hH hL (okS_c trivial hS)
          next => trivial
  next e => unfold x_dstore; split
            next b st' => exact okP_ls hH (okL_none (okL_set hL trivial (fun _ => o2.resolve_left (by omega)))) (okS_tl hS).2 (by rw [List.length_set, List.length_set])
            next => trivial
  iterate 3
    next => unfold x_bin; split
            next => exact okP_nx hH hL (okS_c (inR_wr _) (okS_tl (okS_tl hS).2).2)
            next => trivial
  next => unfold x_binC; split
          next => split
                  next q => exact okP_nx hH hL (okS_c (zi_divIn (okS_tl (okS_tl hS).2).1 q.1 q.2) (okS_tl (okS_tl hS).2).2)
                  next => trivial
          next => trivial
  next => unfold x_binC; split
          next => split
                  next q => exact okP_nx hH hL (okS_c (zi_modIn (okS_tl hS).1 q.2) (okS_tl (okS_tl hS).2).2)
                  next => trivial
          next => trivial
  iterate 4
    next => unfold x_bin; split
            next => exact okP_nx hH hL (okS_c (zi_in _) (okS_tl (okS_tl hS).2).2)
            next => trivial
  next => unfold x_binS; split
          next y x st' =>
            split
            next => exact okP_nx hH hL (okS_c (by have h1 := (okS_tl hS).1; have h2 := (okS_tl (okS_tl hS).2).1; show okV hs h.1 (Sum.inl (if x < y then y else x)); split; exact h1; exact h2) (okS_tl (okS_tl hS).2).2)
            next => trivial
          next => trivial
  iterate 6
    next => unfold x_if; split
            next => split
                    next => exact okP_nx hH hL (okS_tl hS).2
                    next => exact okP_nx hH hL (okS_tl hS).2
            next => trivial
  next => unfold x_binS; split
          next y x st' =>
            split
            next => exact okP_nx hH hL (okS_c (by have h1 := (okS_tl hS).1; have h2 := (okS_tl (okS_tl hS).2).1; show okV hs h.1 (Sum.inl (if y < x then y else x)); split; exact h1; exact h2) (okS_tl (okS_tl hS).2).2)
            next => trivial
          next => trivial
  next => unfold x_fcmp; split
          next => exact okP_nx hH hL (okS_c (zi_in _) (okS_tl (okS_tl hS).2).2)
          next => trivial
  iterate 6
    next => unfold x_icmp; split
            next => split
                    next => exact okP_nx hH hL (okS_tl (okS_tl hS).2).2
                    next => exact okP_nx hH hL (okS_tl (okS_tl hS).2).2
            next => trivial
  next => trivial
end OK

/-! RUNS -/
theorem zrun_s (sc : Nat × (Int → Int)) (n m i : Nat) (ls : zL) (st : List zV) (h : zH) : zrun sc (n + 1) m i ls st h = zel (fun i' ls' st' h' => zrun sc n m i' ls' st' h') (fun m' as st' => (zrun sc n m' 0 (zen m' as) [] h).bind (fun r => zrun sc n m (i + 1) ls (r.1.toList ++ st') r.2)) (fun r => some (r, h)) none (zexR i ls st h sc (zfe m i)) := by
  rw [zrun, zex_el]
theorem zen_ok {hs : Bool} {n m : Nat} {ds : List Nat} {as : List zV} (h : okS hs n as) (hp : ∀ v ∈ as, zplain v = true) : okL hs n ds (zen m as) := by
  intro i v hv
  have hm : some v ∈ zen m as := List.mem_of_getElem? hv
  unfold zen at hm
  rcases List.mem_append.mp hm with h1 | h1
  · obtain ⟨w, hw, e⟩ := List.mem_map.mp h1
    cases e
    refine ⟨h v hw, fun q => ?_⟩
    have := hp v hw
    rcases v with z | (_ | k) | b | b | u
    · cases q
    · cases q
    · cases q
    · cases q
    · cases this
    · cases q
  · have := List.eq_of_mem_replicate h1
    cases this
theorem run_ok {sc : Nat × (Int → Int)} (hsc : ∀ x, inR (sc.2 x)) (hsl : sc.1 < 2147483648) : ∀ (n : Nat) (hs : Bool) (m i : Nat) (ls : zL) (st : List zV) (h : zH) (r : Option zV) (h' : zH), zrun sc n m i ls st h = some (r, h') → okH h → okL hs h.1 (zds m) ls → okS hs h.1 st → okH h' ∧ (∀ v, r = some v → okV false h'.1 v) ∧ h.1 ≤ h'.1 ∧ h.2.1 ≤ h'.2.1 := by
  intro n
  induction n with
  | zero => intro hs m i ls st h r h' hr; cases hr
  | succ n ih =>
    intro hs m i ls st h r h' hr hH hL hS
    rw [zrun_s] at hr
    have ho := zexR_ok (i := i) (sc := sc) (opk m i) hsc hsl hH hL hS (fun k c hc hm => by
      obtain ⟨v, hv, e⟩ := hm
      rw [← hc]
      have := hS v hv
      rw [e] at this
      exact hH k this)
    generalize zexR i ls st h sc (zfe m i) = ρ at hr ho
    rcases ρ with ⟨i', ls', st', h1⟩ | ⟨m', as, st'⟩ | r1 | u
    · obtain ⟨a1, a2, a3, a4, a5, a6⟩ := ho
      obtain ⟨b1, b2, b3, b4⟩ := ih hs m i' ls' st' h1 r h' hr a1 a2 a3
      exact ⟨b1, b2, Nat.le_trans a4 b3, Nat.le_trans a5 b4⟩
    · obtain ⟨a1, a2, a3⟩ := ho
      have hr : (zrun sc n m' 0 (zen m' as) [] h).bind (fun r => zrun sc n m (i + 1) ls (r.1.toList ++ st') r.2) = some (r, h') := hr
      cases hc : zrun sc n m' 0 (zen m' as) [] h with
      | none => rw [hc] at hr; cases hr
      | some x =>
        obtain ⟨r1, h1⟩ := x
        rw [hc] at hr
        have hr : zrun sc n m (i + 1) ls (r1.toList ++ st') h1 = some (r, h') := hr
        obtain ⟨b1, b2, b3, b4⟩ := ih hs m' 0 _ [] h r1 h1 hc hH (zen_ok a1 a2) (fun v hv => by cases hv)
        obtain ⟨c1, c2, c3, c4⟩ := ih hs m (i + 1) ls _ h1 r h' hr b1 (okL_mono hL b3) (fun v hv => by
          rcases List.mem_append.mp hv with q | q
          · exact okV_f (b2 v (by cases r1 with | none => cases q | some w => rw [List.mem_singleton.mp q]))
          · exact okV_mono (a3 v q) b3)
        exact ⟨c1, c2, Nat.le_trans b3 c3, Nat.le_trans b4 c4⟩
    · have hr : some (r1, h) = some (r, h') := hr
      cases hr
      exact ⟨hH, ho, Nat.le_refl _, Nat.le_refl _⟩
    · cases hr
theorem run_mono {sc : Nat × (Int → Int)} : ∀ (n m i : Nat) (ls : zL) (st : List zV) (h : zH) (x : zR), zrun sc n m i ls st h = some x → ∀ k, zrun sc (n + k) m i ls st h = some x := by
  intro n
  induction n with
  | zero => intro m i ls st h x hr; cases hr
  | succ n ih =>
    intro m i ls st h x hr k
    rw [show n + 1 + k = (n + k) + 1 by omega, zrun_s]
    rw [zrun_s] at hr
    generalize zexR i ls st h sc (zfe m i) = ρ at hr ⊢
    rcases ρ with ⟨i', ls', st', h1⟩ | ⟨m', as, st'⟩ | r1 | u
    · exact ih m i' ls' st' h1 x hr k
    · have hr : (zrun sc n m' 0 (zen m' as) [] h).bind (fun r => zrun sc n m (i + 1) ls (r.1.toList ++ st') r.2) = some x := hr
      show (zrun sc (n + k) m' 0 (zen m' as) [] h).bind (fun r => zrun sc (n + k) m (i + 1) ls (r.1.toList ++ st') r.2) = some x
      cases hc : zrun sc n m' 0 (zen m' as) [] h with
      | none => rw [hc] at hr; cases hr
      | some y =>
        rw [hc] at hr
        rw [ih m' 0 _ [] h y hc k]
        exact ih m (i + 1) ls _ y.2 x hr k
    · exact hr
    · cases hr
