/-! MAKING, CALLS, ENDS; the whole run -/
section SIM2
variable {p : Program} {l : Launch} {e : Env} {R : Room} {s : State} {m : MethodId} {args : Array Value} {below : List Frame} {meth : Method} {c : Code} {Q : State → Prop}
variable {mi : Nat} {D : va_G} {cI cD : ClassId} {bS : Nat} {sc : Nat × (Int → Int)} {hs : Bool} {A : Nat → Prop} {H0 : Heap} {n0 s0 hb : Nat} {ad0 : Nat → Nat} {r : Option zV} {h' : zH} {n : Nat}
variable {i : Nat} {ls : zL} {st : List zV} {h : zH} {H : Heap} {locs : List Loc} {cells slots : Nat} {lsC : Array Slot} {ad : Nat → Nat}
/-- a row that makes a cell asks for room: what comes later has it -/
theorem zroom {i' sz : Nat} {ls' : zL} {st' : List zV} {cc : zC} (hsc : ∀ x, inR (sc.2 x)) (hsl : sc.1 < 2147483648) (hn : n0 + cells = h.1) (hs0 : s0 + slots = h.2.1) (hbd : h'.1 ≤ n0 + R.cells ∧ h'.2.1 ≤ s0 + R.slots) (hr : zrun sc n mi i' ls' st' (zaH h sz cc) = some (r, h')) (ho : okP hs (zds mi) ls h (.inl (i', ls', st', zaH h sz cc))) : cells + 1 ≤ R.cells ∧ slots + sz ≤ R.slots := by
  obtain ⟨-, -, h3, h4⟩ := run_ok hsc hsl n hs mi i' ls' st' (zaH h sz cc) r h' hr ho.1 ho.2.1 ho.2.2.1
  have h3 : h.1 + 1 ≤ h'.1 := h3
  have h4 : h.2.1 + sz ≤ h'.2.1 := h4
  omega
theorem zroom0 {n1 : Nat} (hsc : ∀ x, inR (sc.2 x)) (hsl : sc.1 < 2147483648) (hn : n0 + cells = h.1) (hs0 : s0 + slots = h.2.1) (hbd : h'.1 ≤ n0 + R.cells ∧ h'.2.1 ≤ s0 + R.slots) (hr : zrun sc n1 mi i ls st h = some (r, h')) (Z : zSt mi D cI cD bS hs A H0 n0 s0 hb ad0 ls st h H locs cells slots lsC ad) : cells ≤ R.cells ∧ slots ≤ R.slots := by
  obtain ⟨-, -, h3, h4⟩ := run_ok hsc hsl n1 hs mi i ls st h r h' hr Z.1 Z.2.1 Z.2.2.1
  omega
theorem zi_nn {x : Int} (hx : inR x) (h : 0 ≤ x) : ¬ Int32.ofInt x < 0 := by
  rw [zi_0, zi_lt hx inR_0]; omega
theorem zs_newa (hsc : ∀ x, inR (sc.2 x)) (hsl : sc.1 < 2147483648) (hbd : h'.1 ≤ n0 + R.cells ∧ h'.2.1 ≤ s0 + R.slots) (C : zCx p s m args meth c R mi D cI cD bS sc hs A H0) (K : zG0 p l e R s m args below meth c Q mi D cI cD bS sc hs A H0 n0 s0 hb ad0 r h' n) (Z : zSt mi D cI cD bS hs A H0 n0 s0 hb ad0 ls st h H locs cells slots lsC ad) (hr : zR1 sc n mi i ls h (x_newa i ls st h zNX zBAD) = some (r, h')) (ho : okP hs (zds mi) ls h (x_newa i ls st h zNX zBAD)) (hd : decode (zMI mi).2.1 (zpc mi i) = .ok (.newarray .int, 2)) (hnx : zpc mi (i + 1) = zpc mi i + 2) : W p l e R s m args below meth c H locs cells slots Q (F0 m (zpc mi i) lsC (st.map (vC bS ad))) := by
  unfold x_newa at hr ho
  split at hr
  next x st' =>
    try dsimp only at ho
    split at hr
    next q =>
      rw [if_pos q] at ho
      have hx : inR x := (okS_tl Z.2.2.1).1
      have hrm := zroom hsc hsl Z.2.2.2.2.2.2.2.1 Z.2.2.2.2.2.2.2.2.1 hbd hr ho
      refine va_newaK C.1 C.2.1 (atype := .int) (N := x.toNat) (C.2.2.2.2.1 _ (o_in _ (by simp [oW]; rfl))) rfl hd rfl (zi_nn hx q.1) (zi_nat hx) ?_ hrm.1 hrm.2 rfl (fun H1 cA e1 z1 o1 hAr hNm => ?_)
      · show x.toNat * 4 ≤ 536870912
        omega
      · have hcA : cA = cI := by
          have h1 := (C.2.2.2.2.2.1.2 0 (cI, .int) rfl).2
          exact Option.some.inj (hNm.symm.trans h1)
        subst hcA
        have hP := Z.2.2.2.1
        have hD := Z.2.2.2.2.1
        have hS := Z.2.2.2.2.2.1
        have hk : ∀ (k : Nat) (y : Nat × va_E), (cw cA cD bS ad h)[k]? = some y → H1[y.1]? = H[y.1]? := fun k y hy => o1 y.1 ((hP k y hy).lt)
        refine zfa K Z hr ho (q := H.size) (ec := .inl (cA, x.toNat, .inl (fun _ => 0))) (fun ad' => rfl) ((hP.kept hk).app (fun k y hy => ?_)) (hD.push hP rfl (C.2.2.2.2.2.2.2.2.2.2.2.1 _ hS.1)) ⟨Nat.le_trans hS.1 (by omega), fun y h1 h2 => (o1 y (Nat.lt_of_lt_of_le h1 hS.1)).trans (hS.2.1 y h1 h2), hS.2.2⟩ hnx (okS_tl Z.2.2.1).2 rfl
        have hz : k < 1 := (List.getElem?_eq_some_iff.mp hy).1
        rw [show k = 0 by omega] at hy
        cases hy
        exact e1
    next => cases hr
  next => cases hr
theorem zs_anew (hsc : ∀ x, inR (sc.2 x)) (hsl : sc.1 < 2147483648) (hbd : h'.1 ≤ n0 + R.cells ∧ h'.2.1 ≤ s0 + R.slots) (C : zCx p s m args meth c R mi D cI cD bS sc hs A H0) (K : zG0 p l e R s m args below meth c Q mi D cI cD bS sc hs A H0 n0 s0 hb ad0 r h' n) (Z : zSt mi D cI cD bS hs A H0 n0 s0 hb ad0 ls st h H locs cells slots lsC ad) {ix : Nat} (hr : zR1 sc n mi i ls h (x_anew i ls st h zNX zBAD) = some (r, h')) (ho : okP hs (zds mi) ls h (x_anew i ls st h zNX zBAD)) (hcp : ((zMI mi).2.2.2.2.1, ix, 3, (0 : Int), 0) ∈ ctab) (hd : decode (zMI mi).2.1 (zpc mi i) = .ok (.anewarray ix, 3)) (hnx : zpc mi (i + 1) = zpc mi i + 3) : W p l e R s m args below meth c H locs cells slots Q (F0 m (zpc mi i) lsC (st.map (vC bS ad))) := by
  unfold x_anew at hr ho
  split at hr
  next x st' =>
    try dsimp only at ho
    split at hr
    next q =>
      rw [if_pos q] at ho
      have hx : inR x := (okS_tl Z.2.2.1).1
      have hrm := zroom hsc hsl Z.2.2.2.2.2.2.2.1 Z.2.2.2.2.2.2.2.2.1 hbd hr ho
      have hl := C.2.2.2.2.1 _ (cp_in hcp (by intro q; dsimp only at q; omega))
      refine va_newq (ws := cw cI cD bS ad h) (C := RX0) C.1 C.2.1 C.2.2.2.1 hl C.2.2.2.2.2.2.1 C.2.2.2.2.2.1 Z.2.2.2.1 Z.2.2.2.2.1 Z.2.2.2.2.2.1 C.2.2.2.2.2.2.2.2.2.2.2.1 (zi_nn hx q.1) (zi_nat hx) (by omega) hrm.1 hrm.2 hd (fun qa cA H1 hK2 hP hD hS => ?_)
      have hcA : cA = cD := by
        obtain ⟨kA, comp, k1, k2, k3, k4⟩ := (hK2.2 2 (cA, .object RX0) rfl).2
        obtain ⟨kB, comp2, l1, l2, l3, l4⟩ := (C.2.2.2.2.2.1.2 1 (cD, .object RX0) rfl).2
        exact Option.some.inj (k4.symm.trans l4)
      subst hcA
      exact zfa K Z hr ho (fun ad' => rfl) hP hD hS hnx (okS_tl Z.2.2.1).2 rfl
    next => cases hr
  next => cases hr
theorem zs_new (hsc : ∀ x, inR (sc.2 x)) (hsl : sc.1 < 2147483648) (hbd : h'.1 ≤ n0 + R.cells ∧ h'.2.1 ≤ s0 + R.slots) (C : zCx p s m args meth c R mi D cI cD bS sc hs A H0) (K : zG0 p l e R s m args below meth c Q mi D cI cD bS sc hs A H0 n0 s0 hb ad0 r h' n) (Z : zSt mi D cI cD bS hs A H0 n0 s0 hb ad0 ls st h H locs cells slots lsC ad) {ci ix : Nat} (hr : zR1 sc n mi i ls h (x_new i ls st h zNX ci) = some (r, h')) (ho : okP hs (zds mi) ls h (x_new i ls st h zNX ci)) (hc : ci < 6) (hnm : zN ci = (zT ci).1) (hcp : ((zMI mi).2.2.2.2.1, ix, 3, (ci : Int), 0) ∈ ctab) (hd : decode (zMI mi).2.1 (zpc mi i) = .ok (.new ix, 3)) (hnx : zpc mi (i + 1) = zpc mi i + 3) : W p l e R s m args below meth c H locs cells slots Q (F0 m (zpc mi i) lsC (st.map (vC bS ad))) := by
  unfold x_new at hr ho
  have hrm := zroom hsc hsl Z.2.2.2.2.2.2.2.1 Z.2.2.2.2.2.2.2.2.1 hbd hr ho
  have hl := C.2.2.2.2.1 _ (cp_in hcp (by intro q; dsimp only at q; omega))
  have hl : (Cond.classLink (zN (zMI mi).2.2.2.2.1) ix (zN ci)).before args s = true := hl
  rw [hnm] at hl
  have ht := zT_ok hc
  have hnl := (newF_ok (n := 0) hc).1
  have hty : ∀ k, k < (zT ci).2.2 → parseFieldDescriptor ((zT ci).2.1 k).2.2.1 = some ((parseFieldDescriptor ((zT ci).2.1 k).2.2.1).getD .int) := by
    intro k hk
    rcases (ht.2 k hk).2 with ⟨-, q⟩ | ⟨-, ⟨n, q⟩ | ⟨n, q⟩⟩ <;> rw [q] <;> rfl
  rw [hnl] at hrm hr ho
  refine va_new (ws := cw cI cD bS ad h) (cl := vwCl) (C := (zT ci).1) (T := (zT ci).2.1) (N := (zT ci).2.2) (ci := ci) (fs := (newF ci).map (vC bS ad)) C.1 C.2.1 C.2.2.2.2.1 (fun w hw => x_in ci hc w (List.mem_append_left _ hw)) _ hty C.2.2.2.1 hl (C.2.2.2.2.1 _ (x_in ci hc _ (List.mem_append_right _ (by simp)))) (C.2.2.2.2.1 _ (x_in ci hc _ (List.mem_append_right _ (by simp)))) C.2.2.2.2.2.1 Z.2.2.2.1 Z.2.2.2.2.1 Z.2.2.2.2.2.1 C.2.2.2.2.2.2.2.2.2.2.2.1 (zT_get hc) (fun j hj => ?_) hrm.1 hrm.2 hd (fun qa H1 hP hD hS => ?_)
  · unfold vp_V
    rw [List.getD_eq_getElem?_getD, List.getElem?_map, newF, List.getElem?_map]
    have hj2 : j < (fkt.getD ci []).length := by rw [ht.1]; exact hj
    rcases (ht.2 j hj).2 with ⟨a, q⟩ | ⟨a, ⟨n, q⟩ | ⟨n, q⟩⟩
    all_goals
      rw [List.getD_eq_getElem?_getD, List.getElem?_eq_getElem hj2] at a
      have a := (show (fkt.getD ci [])[j] = _ from a)
      rw [List.getElem?_eq_getElem hj2, a, q]
      rfl
  · refine zfa K Z hr ho (fun ad' => ?_) hP hD hS hnx Z.2.2.1 rfl
    show Sum.inr (ci, _) = Sum.inr (ci, _)
    congr 2
    apply List.map_congr_left
    intro v hv
    obtain ⟨k, hk, e⟩ := List.mem_map.mp (show v ∈ (fkt.getD ci []).map (fun k => if k = 0 then aI 0 else aN) from hv)
    rw [← e]
    split <;> rfl
/-- a call, whatever it answers -/
theorem va_callg {pc : Nat} {ls : Array Slot} {rest st0 : List Value} {A0 A1 : Nat → Prop} {mc ms : Nat} {free : Addr → Prop} {Qa : State → Outcome → State → Prop} (hr : va_Run p l e R s m args below meth c H locs cells slots mc ms (F0 m pc ls st0) rest Qa free) (hS : va_S A0 H0 H locs) (hA : ∀ q, q < H.size → A1 q → A0 q) (hf : ∀ q, free q → A0 q) (hQ : ∀ (v : Option Value) (st t : State), Qa st (.returned v) t → va_F A1 st t)
    (kk : ∀ (v : Option Value) (st t : State) (H1 : Heap) (locs1 : List Loc), t.heap = H1 → Qa st (.returned v) t → va_S A0 H0 H1 locs1 → W p l e R s m args below meth c H1 locs1 (cells + mc) (slots + ms) Q (F0 m (pc + 3) ls (v.toList ++ rest))) : W p l e R s m args below meth c H locs cells slots Q (F0 m pc ls st0) := by
  intro T hT X
  obtain ⟨v, st₀, t, T', L, h0, X', hL, e1, e2, hq, st⟩ := hr T hT X
  obtain ⟨hz, hk⟩ := hQ v st₀ t hq
  rw [h0] at hz hk
  obtain ⟨t2, a1, b1⟩ := kk v st₀ t T'.heap (locs ++ L) e1.symm hq
    ⟨Nat.le_trans hS.1 (by rw [e1]; exact hz), fun q h1 h2 => by rw [e1, hk q (Nat.lt_of_lt_of_le h1 hS.1) (fun z => h2 (hA q (Nat.lt_of_lt_of_le h1 hS.1) z))]; exact hS.2.1 q h1 h2, fun q hq => by
      rcases List.mem_append.mp hq with h | h
      · exact hS.2.2 q h
      · exact hf _ (hL q h)⟩ T' rfl X'
  exact ⟨t2, st t2 a1, b1⟩
def zPc (hs : Bool) (sc : Nat × (Int → Int)) (D : va_G) (cI cD : ClassId) (bS : Nat) (ad : Nat → Nat) (as : List zV) (h : zH) (sz : Nat) : Array Value → State → Prop := va_Pc (as.map (vC bS ad)) (fun U => U.heap.size = sz ∧ va_P D vwCl (cw cI cD bS ad h) U.heap ∧ va_K D vwCl [(cI, .int), (cD, .object RX0)] U ∧ va_D (fun _ => True) (cw cI cD bS ad h) ∧ va_AO RX0 U ∧ (∀ q ∈ ctab, q.2.2.1 = 2 → va_Nw (cpW q) U) ∧ (hs = true → va_X bS sc.1 (fun j => Int32.ofInt (sc.2 j)) U U.heap ∧ bS < U.heap.size ∧ ¬ va_A (cw cI cD bS ad h) sz bS))
def zQc (D : va_G) (cI cD : ClassId) (bS : Nat) (ad : Nat → Nat) (h : zH) (sz : Nat) (r : Option zV) (h' : zH) : Array Value → State → Outcome → State → Prop := fun _ st oc t => (∃ ad', (∀ k, k < h.1 → ad' k = ad k) ∧ oc = .returned (r.map (vC bS ad')) ∧ va_P D vwCl (cw cI cD bS ad' h') t.heap ∧ va_D (va_A (cw cI cD bS ad h) sz) (cw cI cD bS ad' h')) ∧ va_F (va_A (cw cI cD bS ad h) sz) st t
def zws (m : Nat) : List Cond := .code (zMI m).1 (zMI m).2.1 (zMI m).2.2.1 (zMI m).2.2.2.1 :: zG
def zrm (m : Nat) (h h' : zH) : Room := { frames := rmF.getD m 0, cells := h'.1 - h.1, slots := h'.2.1 - h.2.1, locals := rmL.getD m 0 }
def zMet (l : Launch) (sc : Nat × (Int → Int)) (n : Nat) : Prop := ∀ (hs : Bool) (m' : Nat), m' < 96 → ∀ (as : List zV) (h : zH) (r : Option zV) (h' : zH), zrun sc n m' 0 (zen m' as) [] h = some (r, h') → okH h → okS hs h.1 as → (∀ v ∈ as, zplain v = true) → as.length ≤ zml m' → ∀ (D : va_G) (cI cD : ClassId) (bS : Nat) (ad : Nat → Nat) (sz : Nat),
  Met l (zMI m').1 (zws m') (zrm m' h h') (zPc hs sc D cI cD bS ad as h sz) (zQc D cI cD bS ad h sz r h') (h'.1 - h.1) (h'.2.1 - h.2.1) (va_A (cw cI cD bS ad h) sz)
theorem zG_good : ∀ w ∈ zG, goodWord w = true := fun _ hw => (List.mem_filter.mp hw).2
theorem zws_good {m' : Nat} (h : m' < 96) : GoodIn zG (zws m') := by
  intro w hw
  rcases List.mem_cons.mp hw with rfl | hw
  · have h1 : Cond.code (zMI m').1 (zMI m').2.1 (zMI m').2.2.1 (zMI m').2.2.2.1 ∈ zG := m_in h _ (List.mem_append_left _ List.mem_cons_self)
    exact ⟨h1, good_of_word (zG_good _ h1)⟩
  · exact ⟨hw, good_of_word (zG_good _ hw)⟩
theorem zPc_blind {as : List zV} {sz : Nat} : FrameBlind (zPc hs sc D cI cD bS ad as h sz) := by
  intro a U g mk q
  obtain ⟨q0, q1, q2, q3, q4, q5, q6, q7⟩ := q
  exact ⟨q0, q1, q2, va_K.moved (u := U) (U := U.calling g mk a) (Vm.Alike.refl U.vm) q3, q4, va_AO.moved (u := U) (U := U.calling g mk a) (Vm.Alike.refl U.vm) q5, fun w h1 h2 => va_Nw.same (by unfold cpW; rw [h2]; rfl) (show U.vm = (U.calling g mk a).vm from rfl) (q6 w h1 h2), fun hh => ⟨va_X.moved (u := U) (U := U.calling g mk a) (Vm.Alike.refl U.vm) (q7 hh).1, (q7 hh).2⟩⟩
theorem zPc_at {as : List zV} (C : zCx p s m args meth c R mi D cI cD bS sc hs A H0) (hP : va_P D vwCl (cw cI cD bS ad h) H) (hD : va_D A (cw cI cD bS ad h)) (hS : va_S A H0 H locs) : ∀ U : State, U.heap = H → s.WarmedH U.vm → zPc hs sc D cI cD bS ad as h H.size (as.map (vC bS ad)).toArray U := by
  intro U hU hW
  refine ⟨rfl, by rw [hU], by rw [hU]; exact hP, va_K.moved hW.alike C.2.2.2.2.2.1, hD.weaken (fun _ _ _ _ => trivial), va_AO.moved hW.alike C.2.2.2.2.2.2.1, fun w h1 h2 => ?_, fun hh => ?_⟩
  case refine_2 =>
    obtain ⟨hX, hbl, hbA⟩ := C.2.2.2.2.2.2.2.2.2.2.2.2 hh
    rw [hU]
    refine ⟨va_X.moved hW.alike (hX.kept (hS.2.1 bS hbl hbA)), Nat.lt_of_lt_of_le hbl hS.1, fun q => ?_⟩
    rcases q with ⟨k, e, hk⟩ | q
    · exact hbA (hD.2 k (bS, e) hk)
    · exact absurd (Nat.lt_of_lt_of_le hbl hS.1) (Nat.not_lt.mpr q)
  have h3 := C.2.2.2.2.2.2.2.1 w h1 h2
  unfold cpW at h3 ⊢
  rw [h2] at h3 ⊢
  exact va_Nw.warmM hW h3
/-- behind a call -/
theorem zcb {as : List zV} {r1 : Option zV} {h1 : zH} {st0 : List zV} {st' : List zV} {stC : List Value} (C : zCx p s m args meth c R mi D cI cD bS sc hs A H0) (K : zG0 p l e R s m args below meth c Q mi D cI cD bS sc hs A H0 n0 s0 hb ad0 r h' n) (Z : zSt mi D cI cD bS hs A H0 n0 s0 hb ad0 ls st0 h H locs cells slots lsC ad)
    (ho : okH h1 ∧ (∀ v, r1 = some v → okV false h1.1 v) ∧ h.1 ≤ h1.1 ∧ h.2.1 ≤ h1.2.1) (hst : okS hs h.1 st') (hr : zrun sc n mi (i + 1) ls (r1.toList ++ st') h1 = some (r, h')) (hnx : zpc mi (i + 1) = zpc mi i + 3)
    (hv : va_Run p l e R s m args below meth c H locs cells slots (h1.1 - h.1) (h1.2.1 - h.2.1) (F0 m (zpc mi i) lsC stC) (st'.map (vC bS ad)) (zQc D cI cD bS ad h H.size r1 h1 (as.map (vC bS ad)).toArray) (va_A (cw cI cD bS ad h) H.size)) : W p l e R s m args below meth c H locs cells slots Q (F0 m (zpc mi i) lsC stC) := by
  obtain ⟨z1, z2, z3, z4, z5, z6, z7, z8, z9, z10, z11⟩ := Z
  have hA : ∀ q, va_A (cw cI cD bS ad h) H.size q → A q := by
    intro q hq
    rcases hq with ⟨k, e, hk⟩ | hq
    · exact z5.2 k (q, e) hk
    · exact C.2.2.2.2.2.2.2.2.2.2.2.1 q (Nat.le_trans z6.1 hq)
  refine va_callg (A1 := va_A (cw cI cD bS ad h) H.size) hv z6 (fun q _ hq => hA q hq) hA (fun v st t hq => hq.2) (fun v st t H1 locs1 ht hq hS => ?_)
  obtain ⟨⟨ad', ha, hov, hP, hD⟩, -⟩ := hq
  cases hov
  rw [ht] at hP
  have hW := K (i + 1) ls (r1.toList ++ st') h1 H1 locs1 (cells + (h1.1 - h.1)) (slots + (h1.2.1 - h.2.1)) lsC ad' hr ⟨ho.1, okL_mono z2 ho.2.2.1, fun v hv => ?_, hP, hD.weaken (fun k q _ hq => hA q.1 hq), hS, lR_agree z7 z2 ha, by omega, by omega, fun k hk => by rw [ha k (by omega)]; exact z10 k hk, by omega⟩
  · rw [hnx] at hW
    have hm : (r1.toList ++ st').map (vC bS ad') = (r1.map (vC bS ad')).toList ++ st'.map (vC bS ad) := by
      rw [List.map_append]
      congr 1
      · cases r1 <;> rfl
      · exact List.map_congr_left (fun v hv => vC_agree (hst v hv) ha)
    rw [hm] at hW
    exact hW
  · rcases List.mem_append.mp hv with q | q
    · exact okV_f (ho.2.1 v (by cases r1 with | none => cases q | some w => rw [List.mem_singleton.mp q]))
    · exact okV_mono (hst v q) ho.2.2.1
theorem ztake {j : Nat} (hj : j ≤ st.length) : st.map (vC bS ad) = ((st.take j).reverse.map (vC bS ad)).reverse ++ (st.drop j).map (vC bS ad) := by
  rw [List.map_reverse, List.reverse_reverse, ← List.map_append, List.take_append_drop]
theorem zrest {st' : List zV} (h : st'.length ≤ 4) : ((st'.map (vC bS ad)).map fun v => v.category).sum ≤ 8 := Nat.le_trans zcat2 (by omega)
theorem zrun_b {ρ : zP} {m' : Nat} {as st' : List zV} (hρ : ρ = .inr (.inl (m', as, st'))) (hr : zR1 sc n mi i ls h ρ = some (r, h')) : ∃ r1 h1, zrun sc n m' 0 (zen m' as) [] h = some (r1, h1) ∧ zrun sc n mi (i + 1) ls (r1.toList ++ st') h1 = some (r, h') := by
  subst hρ
  have hr : (zrun sc n m' 0 (zen m' as) [] h).bind (fun r => zrun sc n mi (i + 1) ls (r.1.toList ++ st') r.2) = some (r, h') := hr
  cases hc : zrun sc n m' 0 (zen m' as) [] h with
  | none => rw [hc] at hr; cases hr
  | some x => rw [hc] at hr; exact ⟨x.1, x.2, rfl, hr⟩
theorem zCl_ok {rf rl m' j kind : Nat} (h : zCl rf rl m' j kind = true) : m' < 96 ∧ (zMI m').2.2.2.2.2 = kind ∧ (parseMethodDescriptor (zMI m').1.desc).map (fun d => d.parameters.length) = some j ∧ rmF.getD m' 0 + 1 ≤ rf ∧ 8 + ((zMI m').2.2.1 + 11) + rmL.getD m' 0 ≤ rl ∧ (zMI m').1.cls ≠ "java/lang/invoke/MethodHandle" ∧ (zMI m').1.cls ≠ "java/lang/invoke/VarHandle" := by
  simp only [zCl, Bool.and_eq_true, decide_eq_true_eq, beq_iff_eq] at h
  obtain ⟨⟨⟨⟨⟨a, b⟩, c⟩, d⟩, e⟩, f⟩ := h
  exact ⟨a, b, c, d, e, f⟩
theorem zs_calls (hsc : ∀ x, inR (sc.2 x)) (hsl : sc.1 < 2147483648) (hbd : h'.1 ≤ n0 + R.cells ∧ h'.2.1 ≤ s0 + R.slots) (HM : zMet l sc n) (C : zCx p s m args meth c R mi D cI cD bS sc hs A H0) (K : zG0 p l e R s m args below meth c Q mi D cI cD bS sc hs A H0 n0 s0 hb ad0 r h' n) (Z : zSt mi D cI cD bS hs A H0 n0 s0 hb ad0 ls st h H locs cells slots lsC ad) {m' j ix : Nat} (hr : zR1 sc n mi i ls h (x_calls st zCL zBAD m' j) = some (r, h')) (ho : okP hs (zds mi) ls h (x_calls st zCL zBAD m' j)) (hj : j ≤ zml m') (hcp : ((zMI mi).2.2.2.2.1, ix, 1, (m' : Int), 0) ∈ ctab ∨ ((zMI mi).2.2.2.2.1, ix, 2, (m' : Int), 5) ∈ ctab) (hcl : zCl (rmF.getD mi 0) (rmL.getD mi 0) m' j 0 = true) (hd : decode (zMI mi).2.1 (zpc mi i) = .ok (.invokestatic ix, 3)) (hnx : zpc mi (i + 1) = zpc mi i + 3) : W p l e R s m args below meth c H locs cells slots Q (F0 m (zpc mi i) lsC (st.map (vC bS ad))) := by
  unfold x_calls at hr ho
  split at hr
  next q =>
    rw [if_pos q] at ho
    obtain ⟨r1, h1, hr1, hr2⟩ := zrun_b rfl hr
    obtain ⟨o1, o2, o3⟩ := ho
    obtain ⟨c1, c2, c3, c4, c5, c6⟩ := zCl_ok hcl
    have hlen : (st.take j).reverse.length = j := by rw [List.length_reverse, List.length_take]; omega
    have hM := HM hs m' c1 _ h r1 h1 hr1 Z.1 o1 o2 (by rw [hlen]; exact hj) D cI cD bS ad H.size
    have hok := run_ok hsc hsl n hs m' 0 _ [] h r1 h1 hr1 Z.1 (zen_ok o1 o2) (fun v hv => by cases hv)
    have hfin := run_ok hsc hsl n hs mi (i + 1) ls _ h1 r h' hr2 hok.1 (okL_mono Z.2.1 hok.2.2.1) (fun v hv => by
      rcases List.mem_append.mp hv with q | q
      · exact okV_f (hok.2.1 v (by cases r1 with | none => cases q | some w => rw [List.mem_singleton.mp q]))
      · exact okV_mono (o3 v q) hok.2.2.1)
    have hz8 := Z.2.2.2.2.2.2.2.1
    have hz9 := Z.2.2.2.2.2.2.2.2.1
    have hR := C.2.2.2.2.2.2.2.2.2
    have hw := m_in c1
    have hini := C.2.2.2.2.1 _ (hw _ (List.mem_append_left _ (List.mem_cons_of_mem _ List.mem_cons_self)))
    have hsta : (Cond.static (zMI m').1).before args s = true := C.2.2.2.2.1 _ (hw _ (List.mem_append_right _ (by rw [c2]; exact List.mem_cons_self)))
    have hp : PreS s H (zPc hs sc D cI cD bS ad (st.take j).reverse h H.size) ((st.take j).reverse.map (vC bS ad)) := ⟨zPc_blind, zPc_at C Z.2.2.2.1 Z.2.2.2.2.1 Z.2.2.2.2.2.1⟩
    refine zcb (as := (st.take j).reverse) C K Z hok o3 hr2 hnx ?_
    rcases hcp with hcp | hcp
    · exact va_runS ⟨C.1, C.2.1, C.2.2.1, C.2.2.2.1, C.2.2.2.2.1⟩ hM ⟨callB_of j C.2.2.2.2.1 (zws_good c1) rfl rfl rfl hini (C.2.2.2.2.1 _ (cp_in hcp (by intro q; dsimp only at q; omega))) ⟨c6.1, c6.2, c3⟩ ⟨Nat.le_trans c4 hR.1, Nat.le_trans c5 hR.2.1⟩, hsta⟩ hp rfl (by rw [List.length_map]; exact hlen) Z.2.2.2.2.2.2.1.2.1 (ztake q.1.1) (lv_room (zrest (by rw [List.length_drop]; omega))) hd ⟨by omega, by omega⟩
    · have hn := C.2.2.2.2.2.2.2.1 _ hcp rfl
      exact va_runSN (host := zN 5) ⟨C.1, C.2.1, C.2.2.1, C.2.2.2.1, C.2.2.2.2.1⟩ hM ⟨va_cnB j C.2.2.2.2.1 (zws_good c1) rfl rfl rfl hn hini ⟨c6.1, c6.2, c3⟩ ⟨Nat.le_trans c4 hR.1, Nat.le_trans c5 hR.2.1⟩, hsta, trivial⟩ hp rfl (by rw [List.length_map]; exact hlen) Z.2.2.2.2.2.2.1.2.1 (ztake q.1.1) (lv_room (zrest (by rw [List.length_drop]; omega))) hd ⟨by omega, by omega⟩
  next => cases hr
theorem zs_callv (hsc : ∀ x, inR (sc.2 x)) (hsl : sc.1 < 2147483648) (hbd : h'.1 ≤ n0 + R.cells ∧ h'.2.1 ≤ s0 + R.slots) (HM : zMet l sc n) (C : zCx p s m args meth c R mi D cI cD bS sc hs A H0) (K : zG0 p l e R s m args below meth c Q mi D cI cD bS sc hs A H0 n0 s0 hb ad0 r h' n) (Z : zSt mi D cI cD bS hs A H0 n0 s0 hb ad0 ls st h H locs cells slots lsC ad) {z : Int} {m' j ix : Nat} (hr : zR1 sc n mi i ls h (x_callv st h zCL zBAD z m' j) = some (r, h')) (ho : okP hs (zds mi) ls h (x_callv st h zCL zBAD z m' j)) (hj : j ≤ zml m') (hj0 : 0 < j) (hcn : z.toNat < 6 ∧ (zT z.toNat).1 = (zMI m').1.cls) (hcp : ((zMI mi).2.2.2.2.1, ix, 1, (m' : Int), 0) ∈ ctab) (hcl : zCl (rmF.getD mi 0) (rmL.getD mi 0) m' (j - 1) 1 = true) (hd : decode (zMI mi).2.1 (zpc mi i) = .ok (.invokevirtual ix, 3)) (hnx : zpc mi (i + 1) = zpc mi i + 3) : W p l e R s m args below meth c H locs cells slots Q (F0 m (zpc mi i) lsC (st.map (vC bS ad))) := by
  unfold x_callv at hr ho
  split at hr
  next q =>
    rw [if_pos q] at ho
    obtain ⟨r1, h1, hr1, hr2⟩ := zrun_b rfl hr
    obtain ⟨o1, o2, o3⟩ := ho
    obtain ⟨c1, c2, c3, c4, c5, c6⟩ := zCl_ok hcl
    have hlen : (st.take j).reverse.length = j := by rw [List.length_reverse, List.length_take]; omega
    have hM := HM hs m' c1 _ h r1 h1 hr1 Z.1 o1 o2 (by rw [hlen]; exact hj) D cI cD bS ad H.size
    have hok := run_ok hsc hsl n hs m' 0 _ [] h r1 h1 hr1 Z.1 (zen_ok o1 o2) (fun v hv => by cases hv)
    have hfin := run_ok hsc hsl n hs mi (i + 1) ls _ h1 r h' hr2 hok.1 (okL_mono Z.2.1 hok.2.2.1) (fun v hv => by
      rcases List.mem_append.mp hv with q | q
      · exact okV_f (hok.2.1 v (by cases r1 with | none => cases q | some w => rw [List.mem_singleton.mp q]))
      · exact okV_mono (o3 v q) hok.2.2.1)
    have hz8 := Z.2.2.2.2.2.2.2.1
    have hz9 := Z.2.2.2.2.2.2.2.2.1
    have hR := C.2.2.2.2.2.2.2.2.2
    have hw := m_in c1
    have hini := C.2.2.2.2.1 _ (hw _ (List.mem_append_left _ (List.mem_cons_of_mem _ List.mem_cons_self)))
    have hins : (Cond.instanceMethod (zMI m').1).before args s = true := C.2.2.2.2.1 _ (hw _ (List.mem_append_right _ (by rw [c2]; exact List.mem_cons_self)))
    have hl := C.2.2.2.2.1 _ (cp_in hcp (by intro q; dsimp only at q; omega))
    have hrc := q.2
    have hstk0 := ztake (bS := bS) (ad := ad) q.1.1.1
    have hpa := zPc_at (as := (st.take j).reverse) C Z.2.2.2.1 Z.2.2.2.2.1 Z.2.2.2.2.2.1
    generalize hasq : (st.take j).reverse = as at *
    unfold zrecv at hrc
    split at hrc
    next k as1 =>
      split at hrc
      next c9 fs hg =>
        have hci : c9 = z.toNat := by simpa using hrc
        have hkl : k < h.1 := o1 _ List.mem_cons_self
        have hlen2 : as1.length = j - 1 := by rw [List.length_cons] at hlen; omega
        have hstk : st.map (vC bS ad) = (as1.map (vC bS ad)).reverse ++ .ref (ad k) :: (st.drop j).map (vC bS ad) := by
          rw [hstk0, List.map_cons, List.reverse_cons, List.append_assoc]
          rfl
        refine zcb (as := .inr (.inl (some k)) :: as1) C K Z hok o3 hr2 hnx ?_
        have hsel : (Cond.selects (zMI m').1.cls (zMI m').1 (zMI m').1).before args s = true := C.2.2.2.2.1 _ (hw _ (List.mem_append_right _ (by rw [c2]; exact List.mem_cons_of_mem _ List.mem_cons_self)))
        exact va_runV (C := (zMI m').1.cls) ⟨C.1, C.2.1, C.2.2.1, C.2.2.2.1, C.2.2.2.2.1⟩ hM ⟨callB_of (j - 1) C.2.2.2.2.1 (zws_good c1) rfl rfl rfl hini hl ⟨c6.1, c6.2, c3⟩ ⟨Nat.le_trans c4 hR.1, Nat.le_trans c5 hR.2.1⟩, hins, hsel⟩ ⟨zPc_blind, by rw [← hcn.2]; exact va_recv C.2.2.2.2.2.1 Z.2.2.2.1 (ci := z.toNat) (q0 := k) (zT_get hcn.1) (by rw [cw_get hkl, hg, hci]; rfl), hpa⟩ rfl (by rw [List.length_map]; exact hlen2) Z.2.2.2.2.2.2.1.2.1 hstk (lv_room (zrest (by rw [List.length_drop]; omega))) hd ⟨by omega, by omega⟩
      next => cases hrc
    next => cases hrc
  next => cases hr
theorem zs_calli (hsc : ∀ x, inR (sc.2 x)) (hsl : sc.1 < 2147483648) (hbd : h'.1 ≤ n0 + R.cells ∧ h'.2.1 ≤ s0 + R.slots) (HM : zMet l sc n) (C : zCx p s m args meth c R mi D cI cD bS sc hs A H0) (K : zG0 p l e R s m args below meth c Q mi D cI cD bS sc hs A H0 n0 s0 hb ad0 r h' n) (Z : zSt mi D cI cD bS hs A H0 n0 s0 hb ad0 ls st h H locs cells slots lsC ad) {z : Int} {m' j ix : Nat} (hr : zR1 sc n mi i ls h (x_callv st h zCL zBAD z m' j) = some (r, h')) (ho : okP hs (zds mi) ls h (x_callv st h zCL zBAD z m' j)) (hj : j ≤ zml m') (hj0 : 0 < j) (hin : (zMI m').1.name = "<init>") (hrn : (zMI m').2.2.2.1 = none) (hcp : ((zMI mi).2.2.2.2.1, ix, 1, (m' : Int), 0) ∈ ctab) (hcl : zCl (rmF.getD mi 0) (rmL.getD mi 0) m' (j - 1) 2 = true) (hd : decode (zMI mi).2.1 (zpc mi i) = .ok (.invokespecial ix, 3)) (hnx : zpc mi (i + 1) = zpc mi i + 3) : W p l e R s m args below meth c H locs cells slots Q (F0 m (zpc mi i) lsC (st.map (vC bS ad))) := by
  unfold x_callv at hr ho
  split at hr
  next q =>
    rw [if_pos q] at ho
    obtain ⟨r1, h1, hr1, hr2⟩ := zrun_b rfl hr
    obtain ⟨o1, o2, o3⟩ := ho
    obtain ⟨c1, c2, c3, c4, c5, c6⟩ := zCl_ok hcl
    have hlen : (st.take j).reverse.length = j := by rw [List.length_reverse, List.length_take]; omega
    have hM := HM hs m' c1 _ h r1 h1 hr1 Z.1 o1 o2 (by rw [hlen]; exact hj) D cI cD bS ad H.size
    have hok := run_ok hsc hsl n hs m' 0 _ [] h r1 h1 hr1 Z.1 (zen_ok o1 o2) (fun v hv => by cases hv)
    have hfin := run_ok hsc hsl n hs mi (i + 1) ls _ h1 r h' hr2 hok.1 (okL_mono Z.2.1 hok.2.2.1) (fun v hv => by
      rcases List.mem_append.mp hv with q | q
      · exact okV_f (hok.2.1 v (by cases r1 with | none => cases q | some w => rw [List.mem_singleton.mp q]))
      · exact okV_mono (o3 v q) hok.2.2.1)
    have hz8 := Z.2.2.2.2.2.2.2.1
    have hz9 := Z.2.2.2.2.2.2.2.2.1
    have hR := C.2.2.2.2.2.2.2.2.2
    have hw := m_in c1
    have hini := C.2.2.2.2.1 _ (hw _ (List.mem_append_left _ (List.mem_cons_of_mem _ List.mem_cons_self)))
    have hins : (Cond.instanceMethod (zMI m').1).before args s = true := C.2.2.2.2.1 _ (hw _ (List.mem_append_right _ (by rw [c2]; exact List.mem_cons_self)))
    have hl := C.2.2.2.2.1 _ (cp_in hcp (by intro q; dsimp only at q; omega))
    have hrc := q.2
    have hstk0 := ztake (bS := bS) (ad := ad) q.1.1.1
    have hpa := zPc_at (as := (st.take j).reverse) C Z.2.2.2.1 Z.2.2.2.2.1 Z.2.2.2.2.2.1
    generalize hasq : (st.take j).reverse = as at *
    unfold zrecv at hrc
    split at hrc
    next k as1 =>
      split at hrc
      next c9 fs hg =>
        have hci : c9 = z.toNat := by simpa using hrc
        have hkl : k < h.1 := o1 _ List.mem_cons_self
        have hlen2 : as1.length = j - 1 := by rw [List.length_cons] at hlen; omega
        have hstk : st.map (vC bS ad) = (as1.map (vC bS ad)).reverse ++ .ref (ad k) :: (st.drop j).map (vC bS ad) := by
          rw [hstk0, List.map_cons, List.reverse_cons, List.append_assoc]
          rfl
        refine zcb (as := .inr (.inl (some k)) :: as1) C K Z hok o3 hr2 hnx ?_
        exact va_runI ⟨C.1, C.2.1, C.2.2.1, C.2.2.2.1, C.2.2.2.2.1⟩ hM ⟨callB_of (j - 1) C.2.2.2.2.1 (zws_good c1) (by rw [← hrn]; rfl) rfl rfl hini hl ⟨c6.1, c6.2, c3⟩ ⟨Nat.le_trans c4 hR.1, Nat.le_trans c5 hR.2.1⟩, hin, hins⟩ ⟨zPc_blind, hpa⟩ rfl (by rw [List.length_map]; exact hlen2) Z.2.2.2.2.2.2.1.2.1 hstk (lv_room (zrest (by rw [List.length_drop]; omega))) hd ⟨by omega, by omega⟩
      next => cases hrc
    next => cases hrc
  next => cases hr
theorem zswIn {α : Type} {x : Int} {f : Nat → α} {d : Nat} {t : Nat} {v : Int} : ∀ {tb : List (Int × Nat)} {k : Nat}, tb[k]? = some (v, t) → x = v → (∀ k2 v2 t2, k2 < k → tb[k2]? = some (v2, t2) → v2 ≠ v) → swK tb x f d = f t
  | [], k, h, _, _ => by simp at h
  | (v0, t0) :: tb, 0, h, hx, _ => by
    simp only [List.getElem?_cons_zero, Option.some.injEq, Prod.mk.injEq] at h
    unfold swK
    rw [if_pos (by rw [hx, h.1]), h.2]
  | (v0, t0) :: tb, k + 1, h, hx, hn => by
    unfold swK
    rw [if_neg (by rw [hx]; exact fun q => hn 0 v0 t0 (by omega) rfl q.symm)]
    exact zswIn (k := k) (by simpa using h) hx (fun k2 v2 t2 h2 h3 => hn (k2 + 1) v2 t2 (by omega) (by simpa using h3))
theorem zswOut {α : Type} {x : Int} {f : Nat → α} {d : Nat} : ∀ {tb : List (Int × Nat)}, (∀ q ∈ tb, x ≠ q.1) → swK tb x f d = f d
  | [], _ => rfl
  | (v0, t0) :: tb, h => by
    unfold swK
    rw [if_neg (h (v0, t0) List.mem_cons_self)]
    exact zswOut (fun q hq => h q (List.mem_cons_of_mem _ hq))
theorem zs_tsw (C : zCx p s m args meth c R mi D cI cD bS sc hs A H0) (K : zG0 p l e R s m args below meth c Q mi D cI cD bS sc hs A H0 n0 s0 hb ad0 r h' n) (Z : zSt mi D cI cD bS hs A H0 n0 s0 hb ad0 ls st h H locs cells slots lsC ad) {tb : List (Int × Nat)} {d len : Nat} {dd lo hi : Int} {offs : Array Int} (hr : zR1 sc n mi i ls h (x_sw ls st h zNX zBAD tb d) = some (r, h')) (ho : okP hs (zds mi) ls h (x_sw ls st h zNX zBAD tb d)) (hd : decode (zMI mi).2.1 (zpc mi i) = .ok (.tableswitch dd lo hi offs, len)) (h1 : (zpc mi i : Int) + dd = (zpc mi d : Int)) (h2 : hi - lo + 1 = (offs.size : Int)) (h3 : tb.length = offs.size) (h4 : ∀ k, k < offs.size → ∃ t o, tb[k]? = some (lo + (k : Int), t) ∧ offs[k]? = some o ∧ (zpc mi i : Int) + o = (zpc mi t : Int)) : W p l e R s m args below meth c H locs cells slots Q (F0 m (zpc mi i) lsC (st.map (vC bS ad))) := by
  unfold x_sw at hr ho
  split at hr
  next x st' =>
    try dsimp only at ho
    try dsimp only at ho
    have hx : inR x := (okS_tl Z.2.2.1).1
    by_cases hin : lo ≤ x ∧ x ≤ hi
    · obtain ⟨t, o, e1, e2, e3⟩ := h4 (x - lo).toNat (by omega)
      have hsw : ∀ f : Nat → zP, swK tb x f d = f t := fun f => zswIn e1 (by omega) (fun k2 v2 t2 hk2 hv2 hne => by
        obtain ⟨t', o', e1', -, -⟩ := h4 k2 (by omega)
        rw [e1'] at hv2
        cases hv2
        omega)
      rw [hsw] at hr ho
      exact lv_tableIn C.1 C.2.1 hd (by rw [zi_ti hx]; omega) (by rw [zi_ti hx]; omega) (by rw [zi_ti hx]; exact e2) e3 (zf K Z hr ho rfl rfl)
    · have hsw : ∀ f : Nat → zP, swK tb x f d = f d := fun f => zswOut (fun q hq => by
        obtain ⟨k, hk⟩ := List.getElem?_of_mem hq
        have hkl := (List.getElem?_eq_some_iff.mp hk).1
        obtain ⟨t', o', e1', -, -⟩ := h4 k (by omega)
        rw [e1'] at hk
        cases hk
        intro hxx
        dsimp only at hxx
        omega)
      rw [hsw] at hr ho
      exact lv_tableOut C.1 C.2.1 hd (by rw [zi_ti hx]; omega) h1 (zf K Z hr ho rfl rfl)
  next => cases hr
theorem zlook {x dd : Int} {d : Nat} : ∀ {tb : List (Int × Nat)} {ps : List (Int × Int)}, (zpc mi i : Int) + dd = (zpc mi d : Int) → tb.length = ps.length → (∀ q ∈ tb.zip ps, q.1.1 = q.2.1 ∧ (zpc mi i : Int) + q.2.2 = (zpc mi q.1.2 : Int)) → ∃ t, (∀ f : Nat → zP, swK tb x f d = f t) ∧ (zpc mi i : Int) + Op.lookupswitch.offset ps dd x = (zpc mi t : Int)
  | [], [], h1, _, _ => ⟨d, fun _ => rfl, h1⟩
  | [], _ :: _, _, h, _ => by simp at h
  | _ :: _, [], _, h, _ => by simp at h
  | (v, t) :: tb, (a, off) :: ps, h1, h2, h3 => by
    obtain ⟨e1, e2⟩ := h3 ((v, t), (a, off)) (by simp)
    dsimp only at e1 e2
    by_cases hx : x = v
    · refine ⟨t, fun f => by unfold swK; rw [if_pos hx], ?_⟩
      rw [Op.lookupswitch.offset_cons, if_pos (by rw [← e1, hx])]
      exact e2
    · obtain ⟨t', e3, e4⟩ := zlook (tb := tb) (ps := ps) h1 (by simpa using h2) (fun q hq => h3 q (by simp [hq]))
      refine ⟨t', fun f => by unfold swK; rw [if_neg hx]; exact e3 f, ?_⟩
      rw [Op.lookupswitch.offset_cons, if_neg (by rw [← e1]; exact fun q => hx q.symm)]
      exact e4
theorem zs_lsw (C : zCx p s m args meth c R mi D cI cD bS sc hs A H0) (K : zG0 p l e R s m args below meth c Q mi D cI cD bS sc hs A H0 n0 s0 hb ad0 r h' n) (Z : zSt mi D cI cD bS hs A H0 n0 s0 hb ad0 ls st h H locs cells slots lsC ad) {tb : List (Int × Nat)} {d len : Nat} {dd : Int} {ps : Array (Int × Int)} (hr : zR1 sc n mi i ls h (x_sw ls st h zNX zBAD tb d) = some (r, h')) (ho : okP hs (zds mi) ls h (x_sw ls st h zNX zBAD tb d)) (hd : decode (zMI mi).2.1 (zpc mi i) = .ok (.lookupswitch dd ps, len)) (h1 : (zpc mi i : Int) + dd = (zpc mi d : Int)) (hp : (ps.toList.zip (ps.toList.drop 1)).all (fun (a, next) => a.1 < next.1) = true) (h3 : tb.length = ps.toList.length) (h4 : ∀ q ∈ tb.zip ps.toList, q.1.1 = q.2.1 ∧ (zpc mi i : Int) + q.2.2 = (zpc mi q.1.2 : Int)) : W p l e R s m args below meth c H locs cells slots Q (F0 m (zpc mi i) lsC (st.map (vC bS ad))) := by
  unfold x_sw at hr ho
  split at hr
  next x st' =>
    try dsimp only at ho
    try dsimp only at ho
    have hx : inR x := (okS_tl Z.2.2.1).1
    obtain ⟨t, e1, e2⟩ := zlook (x := x) h1 h3 h4
    rw [e1] at hr ho
    exact lv_lookup C.1 C.2.1 hd hp rfl (by rw [zi_ti hx]; exact e2) (zf K Z hr ho rfl rfl)
  next => cases hr
end SIM2
