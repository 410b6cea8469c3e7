/-! A VIEW: a heap h that lies, its cells renamed by f, in a greater heap H; what runs in h runs in H (d: which cells of h are meant) -/
def vf (f : Nat → Nat) : zV → zV
  | .inr (.inl r) => .inr (.inl (r.map f))
  | v => v
def okv (d : Nat → Prop) : zV → Prop
  | .inr (.inl r) => ∀ k, r = some k → d k
  | _ => True
def cf (f : Nat → Nat) : zC → zC
  | .inl (c, fs) => .inl (c, fs.map (vf f))
  | .inr (.inl q) => .inr (.inl q)
  | .inr (.inr (n, g)) => .inr (.inr (n, fun i => (g i).map f))
def okc (d : Nat → Prop) : zC → Prop
  | .inl (_, fs) => ∀ v ∈ fs, okv d v
  | .inr (.inl _) => True
  | .inr (.inr (_, g)) => ∀ i k, g i = some k → d k
def rVw (d : Nat → Prop) (f : Nat → Nat) (h H : zH) : Prop := (∀ k, d k → k < h.1 ∧ f k < H.1 ∧ okc d (zgt h k) ∧ zgt H (f k) = cf f (zgt h k)) ∧ (∀ k j, d k → d j → f k = f j → k = j)
def mL (f : Nat → Nat) (ls : zL) : zL := ls.map (Option.map (vf f))
def mS (f : Nat → Nat) (st : List zV) : List zV := st.map (vf f)
def okLs (d : Nat → Prop) (ls : zL) : Prop := ∀ v, some v ∈ ls → okv d v
def okSt (d : Nat → Prop) (st : List zV) : Prop := ∀ v ∈ st, okv d v
def EX (d : Nat → Prop) (f : Nat → Nat) (h H : zH) (d' : Nat → Prop) (f' : Nat → Nat) (h' H' : zH) : Prop := (∀ k, d k → d' k ∧ f' k = f k) ∧ (∀ k, d' k → d k ∨ H.1 ≤ f' k) ∧ H.1 ≤ H'.1 ∧ H'.1 + h.1 = h'.1 + H.1 ∧ H'.2.1 + h.2.1 = h'.2.1 + H.2.1 ∧ (∀ q, (q < H.1 ∨ H'.1 ≤ q) → (∀ k, d k → f k ≠ q) → zgt H' q = zgt H q)
def SP (d : Nat → Prop) (f : Nat → Nat) (h H : zH) : zP → zP → Prop
  | .inl (i', ls', st', h1), ρ' => ∃ d' f' H1, ρ' = .inl (i', mL f' ls', mS f' st', H1) ∧ rVw d' f' h1 H1 ∧ EX d f h H d' f' h1 H1 ∧ okLs d' ls' ∧ okSt d' st'
  | .inr (.inl (m', as, st')), ρ' => ρ' = .inr (.inl (m', mS f as, mS f st')) ∧ okSt d as ∧ okSt d st'
  | .inr (.inr (.inl r)), ρ' => ρ' = .inr (.inr (.inl (r.map (vf f)))) ∧ ∀ v, r = some v → okv d v
  | .inr (.inr (.inr ())), _ => True
theorem EX_rf {d : Nat → Prop} {f : Nat → Nat} {h H : zH} : EX d f h H d f h H := ⟨fun _ q => ⟨q, rfl⟩, fun _ q => Or.inl q, Nat.le_refl _, Nat.add_comm _ _, Nat.add_comm _ _, fun _ _ _ => rfl⟩
theorem EX_tr {d d1 d2 : Nat → Prop} {f f1 f2 : Nat → Nat} {h H h1 H1 h2 H2 : zH} (hR : rVw d1 f1 h1 H1) (a : EX d f h H d1 f1 h1 H1) (b : EX d1 f1 h1 H1 d2 f2 h2 H2) : EX d f h H d2 f2 h2 H2 := by
  obtain ⟨a1, a2, a3, a4, a5, a6⟩ := a
  obtain ⟨b1, b2, b3, b4, b5, b6⟩ := b
  refine ⟨fun k q => ⟨(b1 k (a1 k q).1).1, (b1 k (a1 k q).1).2.trans (a1 k q).2⟩, fun k q => ?_, Nat.le_trans a3 b3, by omega, by omega, fun q hq hn => ?_⟩
  · rcases b2 k q with q1 | q1
    · rcases a2 k q1 with q2 | q2
      · exact Or.inl q2
      · right; rw [(b1 k q1).2]; exact q2
    · right; omega
  · rw [b6 q (by omega) (fun k hk e => ?_), a6 q (by omega) hn]
    have h3 := (hR.1 k hk).2.1
    rcases a2 k hk with q1 | q1
    · exact hn k q1 ((a1 k q1).2 ▸ e)
    · omega
theorem okSt_tl {d : Nat → Prop} {v : zV} {st : List zV} (h : okSt d (v :: st)) : okv d v ∧ okSt d st := ⟨h v List.mem_cons_self, fun w hw => h w (List.mem_cons_of_mem _ hw)⟩
theorem okSt_c {d : Nat → Prop} {v : zV} {st : List zV} (h1 : okv d v) (h : okSt d st) : okSt d (v :: st) := by
  intro w hw
  rcases List.mem_cons.mp hw with rfl | hw
  · exact h1
  · exact h w hw
theorem mL_get {f : Nat → Nat} {ls : zL} {a : Nat} {v : zV} (h : ls[a]? = some (some v)) : (mL f ls)[a]? = some (some (vf f v)) := by
  unfold mL
  rw [List.getElem?_map, h]
  rfl
theorem mL_set {f : Nat → Nat} {ls : zL} {a : Nat} {v : zV} : mL f (ls.set a (some v)) = (mL f ls).set a (some (vf f v)) := by
  unfold mL
  rw [List.map_set]
  rfl
theorem mL_setN {f : Nat → Nat} {ls : zL} {a : Nat} : mL f (ls.set a none) = (mL f ls).set a none := by
  unfold mL
  rw [List.map_set]
  rfl
theorem okLs_get {d : Nat → Prop} {ls : zL} {a : Nat} {v : zV} (hL : okLs d ls) (h : ls[a]? = some (some v)) : okv d v := hL v (List.mem_of_getElem? h)
theorem okLs_set {d : Nat → Prop} {ls : zL} {a : Nat} {v : zV} (hL : okLs d ls) (h : okv d v) : okLs d (ls.set a (some v)) := by
  intro w hw
  rcases List.mem_or_eq_of_mem_set hw with q | q
  · exact hL w q
  · cases q; exact h
theorem okLs_setN {d : Nat → Prop} {ls : zL} {a : Nat} (hL : okLs d ls) : okLs d (ls.set a none) := by
  intro w hw
  rcases List.mem_or_eq_of_mem_set hw with q | q
  · exact hL w q
  · cases q
theorem okLs_mono {d d' : Nat → Prop} (hd : ∀ k, d k → d' k) {ls : zL} (hL : okLs d ls) : okLs d' ls := fun v hv => by
  have := hL v hv
  rcases v with z | r | b
  · trivial
  · exact fun k hk => hd k (this k hk)
  · trivial
theorem okv_mono {d d' : Nat → Prop} (hd : ∀ k, d k → d' k) {v : zV} (this : okv d v) : okv d' v := by
  rcases v with z | r | b
  · trivial
  · exact fun k hk => hd k (this k hk)
  · trivial
theorem okSt_mono {d d' : Nat → Prop} (hd : ∀ k, d k → d' k) {st : List zV} (hS : okSt d st) : okSt d' st := fun v hv => okv_mono hd (hS v hv)
theorem okc_mono {d d' : Nat → Prop} (hd : ∀ k, d k → d' k) {c : zC} (this : okc d c) : okc d' c := by
  rcases c with ⟨ci, fs⟩ | q | ⟨n, g⟩
  · exact fun v hv => okv_mono hd (this v hv)
  · trivial
  · exact fun i k hk => hd k (this i k hk)
theorem vf_cg {d : Nat → Prop} {f f' : Nat → Nat} (hf : ∀ k, d k → f' k = f k) {v : zV} (this : okv d v) : vf f' v = vf f v := by
  rcases v with z | (_ | k) | b
  · rfl
  · rfl
  · show Sum.inr (Sum.inl (some (f' k))) = Sum.inr (Sum.inl (some (f k)))
    rw [hf k (this k rfl)]
  · rfl
theorem mS_cg {d : Nat → Prop} {f f' : Nat → Nat} (hf : ∀ k, d k → f' k = f k) {st : List zV} (this : okSt d st) : mS f' st = mS f st := List.map_congr_left (fun v hv => vf_cg hf (this v hv))
theorem mL_cg {d : Nat → Prop} {f f' : Nat → Nat} (hf : ∀ k, d k → f' k = f k) {ls : zL} (this : okLs d ls) : mL f' ls = mL f ls := List.map_congr_left (fun o ho => by
  cases o with
  | none => rfl
  | some v => show some _ = some _; rw [vf_cg hf (this v ho)])
theorem cf_cg {d : Nat → Prop} {f f' : Nat → Nat} (hf : ∀ k, d k → f' k = f k) {c : zC} (this : okc d c) : cf f' c = cf f c := by
  rcases c with ⟨ci, fs⟩ | q | ⟨n, g⟩
  · show Sum.inl (ci, _) = Sum.inl (ci, _)
    rw [show fs.map (vf f') = fs.map (vf f) from mS_cg hf this]
  · rfl
  · have : (fun i => (g i).map f') = fun i => (g i).map f := by
      funext i
      cases hg : g i with
      | none => rfl
      | some k => show some _ = some _; rw [hf k (this i k hg)]
    show Sum.inr (Sum.inr (n, _)) = Sum.inr (Sum.inr (n, _))
    rw [this]
section VIEW
variable {d : Nat → Prop} {f : Nat → Nat} {h H : zH} {ls : zL} {st : List zV} {i : Nat} {sc : Nat × (Int → Int)}
theorem SP_nx {i' : Nat} {ls' : zL} {st' : List zV} {ρ' : zP} (hR : rVw d f h H) (he : ρ' = .inl (i', mL f ls', mS f st', H)) (hL : okLs d ls') (hS : okSt d st') : SP d f h H (.inl (i', ls', st', h)) ρ' := ⟨d, f, H, he, hR, EX_rf, hL, hS⟩
/-- a cell written -/
theorem rVw_u {k : Nat} {c : zC} (hR : rVw d f h H) (hk : d k) (hc : okc d c) : rVw d f (zuH h k c) (zuH H (f k) (cf f c)) := by
  refine ⟨fun j hj => ?_, hR.2⟩
  obtain ⟨a1, a2, a3, a4⟩ := hR.1 j hj
  refine ⟨a1, a2, ?_, ?_⟩
  · rw [zgt_u]; split
    · exact hc
    · exact a3
  · rw [zgt_u, zgt_u]
    by_cases e : j = k
    · rw [if_pos e, if_pos (by rw [e])]
    · rw [if_neg e, if_neg (fun q => e (hR.2 j k hj hk q))]
      exact a4
theorem SP_u {i' k : Nat} {c c' : zC} {st' : List zV} {ρ' : zP} (hR : rVw d f h H) (hk : d k) (hc : okc d c) (hc' : c' = cf f c) (he : ρ' = .inl (i', mL f ls, mS f st', zuH H (f k) c')) (hL : okLs d ls) (hS : okSt d st') : SP d f h H (.inl (i', ls, st', zuH h k c)) ρ' := by
  subst hc'
  refine ⟨d, f, _, he, rVw_u hR hk hc, ⟨fun _ q => ⟨q, rfl⟩, fun _ q => Or.inl q, Nat.le_refl _, Nat.add_comm _ _, Nat.add_comm _ _, fun q _ hn => ?_⟩, hL, hS⟩
  rw [zgt_u, if_neg (fun e => hn k hk e.symm)]
/-- a cell made -/
theorem SP_a {i' n : Nat} {c c' : zC} {st' : List zV} {ρ' : zP} (hR : rVw d f h H) (hc : ∀ d' : Nat → Prop, okc d' c) (hc' : ∀ f', c' = cf f' c) (he : ρ' = .inl (i', mL f ls, .inr (.inl (some H.1)) :: mS f st', zaH H n c')) (hL : okLs d ls) (hS : okSt d st') : SP d f h H (.inl (i', ls, .inr (.inl (some h.1)) :: st', zaH h n c)) ρ' := by
  have hf : ∀ k, d k → (fun k => if k = h.1 then H.1 else f k) k = f k := fun k hk => if_neg (by have := (hR.1 k hk).1; omega)
  have hd : ∀ k, d k → (fun k => d k ∨ k = h.1) k := fun k hk => Or.inl hk
  refine ⟨fun k => d k ∨ k = h.1, fun k => if k = h.1 then H.1 else f k, zaH H n c', ?_, ⟨fun k hk => ?_, fun k j hk hj e => ?_⟩, ⟨fun k hk => ⟨Or.inl hk, hf k hk⟩, fun k hk => ?_, Nat.le_succ _, by show H.1 + 1 + h.1 = h.1 + 1 + H.1; omega, by show H.2.1 + n + h.2.1 = h.2.1 + n + H.2.1; omega, fun q hq hn => ?_⟩, okLs_mono hd hL, okSt_c (fun k hk => by cases hk; exact Or.inr rfl) (okSt_mono hd hS)⟩
  · rw [he, mL_cg hf hL]
    show _ = Sum.inl (i', _, vf _ _ :: mS _ st', _)
    rw [mS_cg hf hS]
    show _ = Sum.inl (i', _, Sum.inr (Sum.inl (some (if h.1 = h.1 then H.1 else f h.1))) :: _, _)
    rw [if_pos rfl]
  · rcases hk with hk | rfl
    · obtain ⟨a1, a2, a3, a4⟩ := hR.1 k hk
      refine ⟨Nat.lt_succ_of_lt a1, ?_, ?_, ?_⟩
      · rw [hf k hk]; exact Nat.lt_succ_of_lt a2
      · rw [zgt_a, if_neg (by omega)]; exact okc_mono hd a3
      · rw [hf k hk, zgt_a, zgt_a, if_neg (by omega), if_neg (by omega), a4, cf_cg hf a3]
    · refine ⟨Nat.lt_succ_self _, ?_, ?_, ?_⟩
      · show (if h.1 = h.1 then H.1 else f h.1) < H.1 + 1
        rw [if_pos rfl]; omega
      · rw [zgt_a, if_pos rfl]; exact hc _
      · show zgt (zaH H n c') (if h.1 = h.1 then H.1 else f h.1) = _
        rw [if_pos rfl, zgt_a, zgt_a, if_pos rfl, if_pos rfl]
        exact hc' _
  · have e : (if k = h.1 then H.1 else f k) = (if j = h.1 then H.1 else f j) := e
    rcases hk with hk | rfl
    · have b1 := hR.1 k hk
      rw [if_neg (by omega)] at e
      rcases hj with hj | rfl
      · have b2 := hR.1 j hj
        rw [if_neg (by omega)] at e
        exact hR.2 k j hk hj e
      · rw [if_pos rfl] at e
        omega
    · rw [if_pos rfl] at e
      rcases hj with hj | rfl
      · have b2 := hR.1 j hj
        rw [if_neg (by omega)] at e
        omega
      · rfl
  · rcases hk with hk | rfl
    · exact Or.inl hk
    · right
      show H.1 ≤ (if h.1 = h.1 then H.1 else f h.1)
      rw [if_pos rfl]
      exact Nat.le_refl _
  · have hq : q < H.1 ∨ H.1 + 1 ≤ q := hq
    rw [zgt_a, if_neg (by omega)]
theorem SP_bad {ρ' : zP} : SP d f h H (.inr (.inr (.inr ()))) ρ' := trivial
theorem SP_sw {i : Nat} {x : Int} {st' : List zV} {dd : Nat} (hR : rVw d f h H) (hL : okLs d ls) (hS : okSt d st') : ∀ tb : List (Int × Nat), SP d f h H (swK tb x (fun t => .inl (t, ls, st', h)) dd) (swK tb x (fun t => .inl (t, mL f ls, mS f st', H)) dd)
  | [] => SP_nx hR rfl hL hS
  | (k, t) :: r => by
    unfold swK
    split
    · exact SP_nx hR rfl hL hS
    · exact SP_sw (i := i) hR hL hS r
theorem newF_okc (ci : Nat) (d' : Nat → Prop) : okc d' (.inl (ci, newF ci)) := by
  intro v hv
  obtain ⟨k, hk, e⟩ := List.mem_map.mp (show v ∈ (fkt.getD ci []).map (fun k => if k = 0 then aI 0 else aN) from hv)
  rw [← e]
  split
  · trivial
  · exact fun k hk => by cases hk
theorem newF_cf (ci : Nat) (f' : Nat → Nat) : (.inl (ci, newF ci) : zC) = cf f' (.inl (ci, newF ci)) := by
  show Sum.inl (ci, _) = Sum.inl (ci, _)
  congr 2
  unfold newF
  rw [List.map_map]
  apply List.map_congr_left
  intro k hk
  show _ = vf f' (if k = 0 then aI 0 else aN)
  split <;> rfl
theorem zrecv_v {ci : Nat} {as : List zV} (hR : rVw d f h H) (hS : okSt d as) (hr : zrecv h ci as = true) : zrecv H ci (mS f as) = true := by
  unfold zrecv at hr
  split at hr
  next k as1 =>
    split at hr
    next c9 fs hg =>
      have hk := hR.1 k ((okSt_tl hS).1 k rfl)
      show (match zgt H (f k) with | .inl (c, _) => c == ci | _ => false) = true
      rw [hk.2.2.2, hg]
      exact hr
    next => cases hr
  next => cases hr
theorem plain_v {st : List zV} : (mS f st).all zplain = st.all zplain := by
  unfold mS
  rw [List.all_map]
  congr 1
  funext v
  rcases v with z | r | b | b | u <;> rfl
theorem SP_c {m' j : Nat} {P P' : Prop} [Decidable P] [Decidable P'] (hS : okSt d st) (hp : P → P') : SP d f h H (if P then zCL m' (st.take j).reverse (st.drop j) else zBAD) (if P' then zCL m' ((mS f st).take j).reverse ((mS f st).drop j) else zBAD) := by
  split
  next q =>
    rw [if_pos (hp q)]
    refine ⟨?_, fun v hv => hS v (List.mem_of_mem_take (List.mem_reverse.mp hv)), fun v hv => hS v (List.mem_of_mem_drop hv)⟩
    show Sum.inr (Sum.inl _) = Sum.inr (Sum.inl _)
    unfold mS
    rw [List.map_reverse, List.map_take, List.map_drop]
  next => trivial
set_option maxHeartbeats 8000000 in
theorem zexR_v {op : Op} (hR : rVw d f h H) (hL : okLs d ls) (hS : okSt d st) : SP d f h H (zexR i ls st h sc op) (zexR i (mL f ls) (mS f st) H sc op) := by
  unfold zexR zex
  generalize op.1 = t
  split
  next => exact SP_nx hR rfl hL (okSt_c trivial hS)
  next => unfold x_iload; split
          next z hz => rw [mL_get hz]; exact SP_nx hR rfl hL (okSt_c (okLs_get hL hz) hS)
          next => trivial
  next => unfold x_istore; split
          next z st' => exact SP_nx hR (by rw [mL_set]; rfl) (okLs_set hL (okSt_tl hS).1) (okSt_tl hS).2
          next => trivial
  next => unfold x_iinc; split
          next x hz => rw [mL_get hz]; exact SP_nx hR (by rw [mL_set]; rfl) (okLs_set hL trivial) hS
          next => trivial
  next => unfold x_aload; split
          next r hz => rw [mL_get hz]; exact SP_nx hR rfl hL (okSt_c (okLs_get hL hz) hS)
          next hz => rw [mL_get hz]; exact SP_nx hR rfl hL (okSt_c (okLs_get hL hz) hS)
          next => trivial
  next => unfold x_astore; split
          next r st' => exact SP_nx hR (by rw [mL_set]; rfl) (okLs_set hL (okSt_tl hS).1) (okSt_tl hS).2
          next => trivial
  next => exact SP_nx hR rfl hL hS
  next => unfold x_getf; split
          next k st' =>
            obtain ⟨b1, b2, b3, b4⟩ := hR.1 k ((okSt_tl hS).1 k rfl)
            show SP d f h H _ (getK H (f k) op.2.2.1 op.2.2.2.1 (fun v => .inl (i + 1, mL f ls, v :: mS f st', H)) zBAD)
            unfold getK; rw [b4]; split
            next c fs hg =>
              rw [hg] at b3 ⊢
              show SP d f h H _ (if c = op.2.2.1 then _ else _)
              split
              next =>
                rw [List.getElem?_map]
                split
                next v hv =>
                  rw [hv]
                  exact SP_nx hR rfl hL (okSt_c (b3 v (List.mem_of_getElem? hv)) (okSt_tl hS).2)
                next => trivial
              next => trivial
            next => trivial
          next => trivial
  next => unfold x_putf; split
          next v k st' =>
            have hk := (okSt_tl (okSt_tl hS).2).1 k rfl
            obtain ⟨b1, b2, b3, b4⟩ := hR.1 k hk
            split
            next hf =>
              show SP d f h H _ (if okF op.2.2.1 op.2.2.2.1 (vf f v) = true then putK H (f k) op.2.2.1 op.2.2.2.1 (vf f v) (fun h1 => .inl (i + 1, mL f ls, mS f st', h1)) zBAD else zBAD)
              have hf' : okF op.2.2.1 op.2.2.2.1 (vf f v) = true := by
                have e : ∀ v : zV, okF op.2.2.1 op.2.2.2.1 (vf f v) = okF op.2.2.1 op.2.2.2.1 v := by
                  intro v
                  unfold okF
                  generalize (fkt.getD op.2.2.1 []).getD op.2.2.2.1 9 = q
                  rcases v with z | r | b
                  · rfl
                  · rcases q with _ | _ | q <;> rfl
                  · rfl
                rw [e]; exact hf
              rw [if_pos hf']
              unfold putK; rw [b4]; split
              next c fs hg =>
                rw [hg] at b3 ⊢
                show SP d f h H _ (if c = op.2.2.1 then _ else _)
                split
                next hci =>
                  refine SP_u hR hk (fun w hw => ?_) ?_ rfl hL (okSt_tl (okSt_tl hS).2).2
                  · rcases List.mem_or_eq_of_mem_set hw with q | q
                    · exact b3 w q
                    · rw [q]; exact (okSt_tl hS).1
                  · show Sum.inl (c, _) = Sum.inl (c, _)
                    rw [List.map_set]
                next => trivial
              next => trivial
            next => trivial
          next => trivial
  next => unfold x_iald; split
          next x k st' =>
            obtain ⟨b1, b2, b3, b4⟩ := hR.1 k ((okSt_tl (okSt_tl hS).2).1 k rfl)
            show SP d f h H _ (ialK H (f k) x (fun z => .inl (i + 1, mL f ls, .inl z :: mS f st', H)) zBAD)
            unfold ialK; rw [b4]; split
            next n g hg =>
              rw [hg]
              show SP d f h H _ (if 0 ≤ x ∧ x < n then _ else _)
              split
              next => exact SP_nx hR rfl hL (okSt_c trivial (okSt_tl (okSt_tl hS).2).2)
              next => trivial
            next => trivial
          next x st' =>
            show SP d f h H _ (if 0 ≤ x ∧ x < sc.1 then .inl (i + 1, mL f ls, .inl (sc.2 x) :: mS f st', H) else zBAD)
            split
            next => exact SP_nx hR rfl hL (okSt_c trivial (okSt_tl (okSt_tl hS).2).2)
            next => trivial
          next => trivial
  next => unfold x_iast; split
          next z x k st' =>
            have hk := (okSt_tl (okSt_tl (okSt_tl hS).2).2).1 k rfl
            obtain ⟨b1, b2, b3, b4⟩ := hR.1 k hk
            show SP d f h H _ (iasK H (f k) x z (fun h1 => .inl (i + 1, mL f ls, mS f st', h1)) zBAD)
            unfold iasK; rw [b4]; split
            next n g hg =>
              rw [hg]
              show SP d f h H _ (if 0 ≤ x ∧ x < n then _ else _)
              split
              next => exact SP_u hR hk (c := .inr (.inl (n, zup g x z))) trivial rfl rfl hL (okSt_tl (okSt_tl (okSt_tl hS).2).2).2
              next => trivial
            next => trivial
          next => trivial
  next => unfold x_aald; split
          next x k st' =>
            obtain ⟨b1, b2, b3, b4⟩ := hR.1 k ((okSt_tl (okSt_tl hS).2).1 k rfl)
            show SP d f h H _ (aalK H (f k) x (fun r => .inl (i + 1, mL f ls, .inr (.inl r) :: mS f st', H)) zBAD)
            unfold aalK; rw [b4]; split
            next n g hg =>
              rw [hg] at b3 ⊢
              show SP d f h H _ (if 0 ≤ x ∧ x < n then _ else _)
              split
              next => exact SP_nx hR rfl hL (okSt_c (fun y hy => b3 x y hy) (okSt_tl (okSt_tl hS).2).2)
              next => trivial
            next => trivial
          next => trivial
  next => unfold x_aast; split
          next v x k st' =>
            have hk := (okSt_tl (okSt_tl (okSt_tl hS).2).2).1 k rfl
            have hv := (okSt_tl hS).1 v rfl
            obtain ⟨b1, b2, b3, b4⟩ := hR.1 k hk
            show SP d f h H _ (aasK H (f k) x (f v) (fun h1 => .inl (i + 1, mL f ls, mS f st', h1)) zBAD)
            unfold aasK; rw [b4]; split
            next n g hg =>
              rw [hg] at b3 ⊢
              show SP d f h H _ (if (0 ≤ x ∧ x < n) ∧ isD H (f v) = true then _ else _)
              split
              next q =>
                have hq : isD H (f v) = true := by
                  have h2 := q.2
                  unfold isD at h2 ⊢
                  rw [(hR.1 v hv).2.2.2]
                  split at h2
                  next e => rw [e]; rfl
                  next => cases h2
                rw [if_pos ⟨q.1, hq⟩]
                refine SP_u hR hk (c := .inr (.inr (n, zup g x (some v)))) (fun j y hy => ?_) ?_ rfl hL (okSt_tl (okSt_tl (okSt_tl hS).2).2).2
                · unfold zup at hy
                  split at hy
                  · cases hy; exact hv
                  · exact b3 j y hy
                · show Sum.inr (Sum.inr (n, _)) = Sum.inr (Sum.inr (n, _))
                  congr 3
                  funext j
                  unfold zup
                  by_cases e : j = x
                  · rw [if_pos e, if_pos e]; rfl
                  · rw [if_neg e, if_neg e]
              next => trivial
            next => trivial
          next => trivial
  next => unfold x_alen; split
          next k st' =>
            obtain ⟨b1, b2, b3, b4⟩ := hR.1 k ((okSt_tl hS).1 k rfl)
            show SP d f h H _ (alnK H (f k) (fun z => .inl (i + 1, mL f ls, .inl z :: mS f st', H)) zBAD)
            unfold alnK; rw [b4]; split
            next n g hg =>
              rw [hg]
              exact SP_nx hR rfl hL (okSt_c trivial (okSt_tl hS).2)
            next => trivial
          next st' => exact SP_nx hR rfl hL (okSt_c trivial (okSt_tl hS).2)
          next => trivial
  next => unfold x_newa; split
          next n st' =>
            show SP d f h H _ (if 0 ≤ n ∧ n ≤ 10000 then .inl (i + 1, mL f ls, .inr (.inl (some H.1)) :: mS f st', zaH H n.toNat (.inr (.inl (n.toNat, fun _ => 0)))) else zBAD)
            split
            next q => exact SP_a hR (fun _ => trivial) (fun _ => rfl) rfl hL (okSt_tl hS).2
            next => trivial
          next => trivial
  next => unfold x_anew; split
          next n st' =>
            show SP d f h H _ (if 0 ≤ n ∧ n ≤ 10000 then .inl (i + 1, mL f ls, .inr (.inl (some H.1)) :: mS f st', zaH H n.toNat (.inr (.inr (n.toNat, fun _ => none)))) else zBAD)
            split
            next q => exact SP_a hR (fun _ j y hy => by cases hy) (fun _ => rfl) rfl hL (okSt_tl hS).2
            next => trivial
          next => trivial
  next => exact SP_a hR (fun d' => newF_okc _ d') (fun f' => newF_cf _ f') rfl hL hS
  next => unfold x_dup; split
          next z st' => exact SP_nx hR rfl hL (okSt_c (okSt_tl hS).1 hS)
          next z st' => exact SP_nx hR rfl hL (okSt_c (okSt_tl hS).1 hS)
          next => trivial
  next => unfold x_pop; split
          next z st' => exact SP_nx hR rfl hL (okSt_tl hS).2
          next z st' => exact SP_nx hR rfl hL (okSt_tl hS).2
          next => trivial
  next => unfold x_dup2; split
          next z r st' => exact SP_nx hR rfl hL (okSt_c (okSt_tl hS).1 (okSt_c (okSt_tl (okSt_tl hS).2).1 hS))
          next => trivial
  next => unfold x_ifnull; split
          next st' => exact SP_nx hR rfl hL (okSt_tl hS).2
          next z st' => exact SP_nx hR rfl hL (okSt_tl hS).2
          next => trivial
  next => unfold x_ifnonnull; split
          next st' => exact SP_nx hR rfl hL (okSt_tl hS).2
          next z st' => exact SP_nx hR rfl hL (okSt_tl hS).2
          next => trivial
  next =>
    unfold x_calls
    refine SP_c hS (fun q => ⟨by unfold mS; rw [List.length_map]; exact q.1, ?_⟩)
    unfold mS
    rw [← List.map_take]
    exact plain_v.trans q.2
  iterate 2
    next =>
      unfold x_callv
      refine SP_c hS (fun q => ⟨⟨by unfold mS; rw [List.length_map]; exact q.1.1, ?_⟩, ?_⟩)
      · unfold mS
        rw [← List.map_take]
        exact plain_v.trans q.1.2
      · have := zrecv_v hR (fun v hv => hS v (List.mem_of_mem_take (List.mem_reverse.mp hv))) q.2
        unfold mS at this ⊢
        rw [List.map_reverse, List.map_take] at this
        exact this
  next => unfold x_vret; split
          next => exact ⟨rfl, fun v hv => by cases hv⟩
          next => trivial
  next => unfold x_iret; split
          next => exact ⟨rfl, fun v hv => by cases hv; trivial⟩
          next => trivial
  next => unfold x_zret; split
          next z =>
            show SP d f h H _ (if z = 0 ∨ z = 1 then zRT (some (.inl z)) else zBAD)
            split
            next => exact ⟨rfl, fun v hv => by cases hv; trivial⟩
            next => trivial
          next => trivial
  next => unfold x_aret; split
          next => exact ⟨rfl, fun v hv => by cases hv; exact (okSt_tl hS).1⟩
          next => trivial
  next => unfold x_fret; split
          next => exact ⟨rfl, fun v hv => by cases hv; trivial⟩
          next => trivial
  next => unfold x_oinit; split
          next k st' =>
            show SP d f h H _ (if (mS f st').length ≤ 4 ∧ (mS f st').all zplain = true then .inl (i + 1, mL f ls, mS f st', H) else zBAD)
            split
            next q =>
              rw [if_pos ⟨by unfold mS; rw [List.length_map]; exact q.1, plain_v.trans q.2⟩]
              exact SP_nx hR rfl hL (okSt_tl hS).2
            next => trivial
          next => trivial
  next => unfold x_sw; split
          next x st' => exact SP_sw (i := i) hR hL (okSt_tl hS).2 _
          next => trivial
  next => unfold x_i2f; split
          next => exact SP_nx hR rfl hL (okSt_c trivial (okSt_tl hS).2)
          next => trivial
  next => unfold x_fdiv; split
          next b a st' =>
            show SP d f h H _ (if n32 (FP.fdiv a b) = true then .inl (i + 1, mL f ls, .inr (.inr (.inl (FP.fdiv a b))) :: mS f st', H) else zBAD)
            split
            next => exact SP_nx hR rfl hL (okSt_c trivial (okSt_tl (okSt_tl hS).2).2)
            next => trivial
          next => trivial
  next => unfold x_f2d; split
          next a st' =>
            show SP d f h H _ (if n64 (FP.f2d a) = true then .inl (i + 1, mL f ls, .inr (.inr (.inr (.inl (FP.f2d a)))) :: mS f st', H) else zBAD)
            split
            next => exact SP_nx hR rfl hL (okSt_c trivial (okSt_tl hS).2)
            next => trivial
          next => trivial
  next => unfold x_dcmp; split
          next => exact SP_nx hR rfl hL (okSt_c trivial (okSt_tl (okSt_tl hS).2).2)
          next => trivial
  next => exact SP_nx hR rfl hL (okSt_c trivial hS)
  next => unfold x_dload; split
          next b hz => rw [mL_get hz]; exact SP_nx hR rfl hL (okSt_c trivial hS)
          next => trivial
  next => unfold x_dstore; split
          next b st' => exact SP_nx hR (by rw [mL_setN, mL_set]; rfl) (okLs_setN (okLs_set hL trivial)) (okSt_tl hS).2
          next => trivial
  iterate 3
    next => unfold x_bin; split
            next => exact SP_nx hR rfl hL (okSt_c trivial (okSt_tl (okSt_tl hS).2).2)
            next => trivial
  iterate 2
    next => unfold x_binC; split
            next y x st' =>
              show SP d f h H _ (if 0 ≤ x ∧ 0 < y then .inl (i + 1, mL f ls, .inl _ :: mS f st', H) else zBAD)
              split
              next => exact SP_nx hR rfl hL (okSt_c trivial (okSt_tl (okSt_tl hS).2).2)
              next => trivial
            next => trivial
  iterate 4
    next => unfold x_bin; split
            next => exact SP_nx hR rfl hL (okSt_c trivial (okSt_tl (okSt_tl hS).2).2)
            next => trivial
  next => unfold x_binS; split
          next y x st' =>
            show SP d f h H _ (if (mS f st').length ≤ 4 then .inl (i + 1, mL f ls, .inl _ :: mS f st', H) else zBAD)
            split
            next q =>
              rw [if_pos (by unfold mS; rw [List.length_map]; exact q)]
              exact SP_nx hR rfl hL (okSt_c trivial (okSt_tl (okSt_tl hS).2).2)
            next => trivial
          next => trivial
  iterate 6
    next => unfold x_if; split
            next x st' =>
              split
              next q =>
                refine SP_nx (ls' := ls) (st' := st') hR ?_ hL (okSt_tl hS).2
                exact if_pos q
              next q =>
                refine SP_nx (ls' := ls) (st' := st') hR ?_ hL (okSt_tl hS).2
                exact if_neg q
            next => trivial
  next => unfold x_binS; split
          next y x st' =>
            show SP d f h H _ (if (mS f st').length ≤ 4 then .inl (i + 1, mL f ls, .inl _ :: mS f st', H) else zBAD)
            split
            next q =>
              rw [if_pos (by unfold mS; rw [List.length_map]; exact q)]
              exact SP_nx hR rfl hL (okSt_c trivial (okSt_tl (okSt_tl hS).2).2)
            next => trivial
          next => trivial
  next => unfold x_fcmp; split
          next => exact SP_nx hR rfl hL (okSt_c trivial (okSt_tl (okSt_tl hS).2).2)
          next => trivial
  iterate 6
    next => unfold x_icmp; split
            next y x st' =>
              split
              next q =>
                refine SP_nx (ls' := ls) (st' := st') hR ?_ hL (okSt_tl (okSt_tl hS).2).2
                exact if_pos q
              next q =>
                refine SP_nx (ls' := ls) (st' := st') hR ?_ hL (okSt_tl (okSt_tl hS).2).2
                exact if_neg q
            next => trivial
  next => trivial
theorem mL_en {m : Nat} {as : List zV} : mL f (zen m as) = zen m (mS f as) := by
  unfold mL zen mS
  rw [List.map_append, List.map_map, List.map_replicate, List.map_map, List.length_map]
  rfl
theorem okLs_en {m : Nat} {as : List zV} (h : okSt d as) : okLs d (zen m as) := by
  intro v hv
  unfold zen at hv
  rcases List.mem_append.mp hv with q | q
  · obtain ⟨w, hw, e⟩ := List.mem_map.mp q
    cases e
    exact h v hw
  · have := List.eq_of_mem_replicate q
    cases this
end VIEW
theorem run_v {sc : Nat × (Int → Int)} : ∀ (n : Nat) (d : Nat → Prop) (f : Nat → Nat) (m i : Nat) (ls : zL) (st : List zV) (h H : zH) (r : Option zV) (h' : zH), zrun sc n m i ls st h = some (r, h') → rVw d f h H → okLs d ls → okSt d st → ∃ d' f' H', zrun sc n m i (mL f ls) (mS f st) H = some (r.map (vf f'), H') ∧ rVw d' f' h' H' ∧ EX d f h H d' f' h' H' ∧ ∀ v, r = some v → okv d' v := by
  intro n
  induction n with
  | zero => intro d f m i ls st h H r h' hr; cases hr
  | succ n ih =>
    intro d f m i ls st h H r h' hr hR hL hS
    rw [zrun_s] at hr
    have hv := zexR_v (i := i) (sc := sc) (op := zfe m i) hR hL hS
    rw [zrun_s]
    generalize zexR i ls st h sc (zfe m i) = ρ at hr hv
    rcases ρ with ⟨i', ls', st', h1⟩ | ⟨m', as, st'⟩ | r1 | u
    · obtain ⟨d1, f1, H1, e1, R1, E1, L1, S1⟩ := hv
      rw [e1]
      obtain ⟨d2, f2, H2, e2, R2, E2, o2⟩ := ih d1 f1 m i' ls' st' h1 H1 r h' hr R1 L1 S1
      exact ⟨d2, f2, H2, e2, R2, EX_tr R1 E1 E2, o2⟩
    · obtain ⟨e1, oa, os⟩ := hv
      rw [e1]
      have hr : (zrun sc n m' 0 (zen m' as) [] h).bind (fun r => zrun sc n m (i + 1) ls (r.1.toList ++ st') r.2) = some (r, h') := hr
      cases hc : zrun sc n m' 0 (zen m' as) [] h with
      | none => rw [hc] at hr; cases hr
      | some x =>
        obtain ⟨r1, h1⟩ := x
        rw [hc] at hr
        have hr : zrun sc n m (i + 1) ls (r1.toList ++ st') h1 = some (r, h') := hr
        obtain ⟨d1, f1, H1, e2, R1, E1, o1⟩ := ih d f m' 0 _ [] h H r1 h1 hc hR (okLs_en oa) (fun v hv => by cases hv)
        have hd := fun k hk => (E1.1 k hk).1
        have hf := fun k hk => (E1.1 k hk).2
        obtain ⟨d2, f2, H2, e3, R2, E2, o2⟩ := ih d1 f1 m (i + 1) ls _ h1 H1 r h' hr R1 (okLs_mono hd hL) (fun v hv => by
          rcases List.mem_append.mp hv with q | q
          · exact o1 v (by cases r1 with | none => cases q | some w => rw [List.mem_singleton.mp q])
          · exact okv_mono hd (os v q))
        refine ⟨d2, f2, H2, ?_, R2, EX_tr R1 E1 E2, o2⟩
        show (zrun sc n m' 0 (zen m' (mS f as)) [] H).bind (fun r => zrun sc n m (i + 1) (mL f ls) (r.1.toList ++ mS f st') r.2) = _
        rw [mL_en] at e2
        rw [show zrun sc n m' 0 (zen m' (mS f as)) [] H = _ from e2]
        show zrun sc n m (i + 1) (mL f ls) ((r1.map (vf f1)).toList ++ mS f st') H1 = _
        have e4 : mS f1 (r1.toList ++ st') = (r1.map (vf f1)).toList ++ mS f st' := by
          rw [← mS_cg hf os]
          unfold mS
          rw [List.map_append]
          congr 1
          cases r1 <;> rfl
        rw [← e4, ← mL_cg hf hL]
        exact e3
    · have hr : some (r1, h) = some (r, h') := hr
      cases hr
      rw [hv.1]
      exact ⟨d, f, H, rfl, hR, EX_rf, hv.2⟩
    · cases hr
