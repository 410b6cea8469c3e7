/-! THE STEP, AND ALL STEPS -/
def zEnd (mi i : Nat) (r : Option zV) : Prop := match r with
  | none => decode (zMI mi).2.1 (zpc mi i) = .ok (.return_, 1) ∧ (zMI mi).2.2.2.1 = none
  | some (.inl z) => decode (zMI mi).2.1 (zpc mi i) = .ok (.ireturn, 1) ∧ ((zMI mi).2.2.2.1 = some .int ∨ ((zMI mi).2.2.2.1 = some .boolean ∧ (z = 0 ∨ z = 1)))
  | some (.inr (.inl _)) => decode (zMI mi).2.1 (zpc mi i) = .ok (.areturn, 1) ∧ ((∃ n, (zMI mi).2.2.2.1 = some (.object n)) ∨ ∃ t, (zMI mi).2.2.2.1 = some (.array t))
  | some (.inr (.inr (.inl _))) => decode (zMI mi).2.1 (zpc mi i) = .ok (.freturn, 1) ∧ (zMI mi).2.2.2.1 = some .float
  | _ => False
def zKe (p : Program) (l : Launch) (e : Env) (R : Room) (s : State) (m : MethodId) (args : Array Value) (below : List Frame) (meth : Method) (c : Code) (Q : State → Prop) (mi : Nat) (D : va_G) (cI cD : ClassId) (bS : Nat) (A : Nat → Prop) (H0 : Heap) (n0 s0 hb : Nat) (ad0 : Nat → Nat) (r : Option zV) (h' : zH) : Prop :=
  ∀ (i' : Nat) (ad' : Nat → Nat) (H' : Heap) (locs' : List Loc) (lsC' : Array Slot) (cells' slots' : Nat), zEnd mi i' r → va_P D vwCl (cw cI cD bS ad' h') H' → va_D A (cw cI cD bS ad' h') → va_S A H0 H' locs' → n0 + cells' = h'.1 → s0 + slots' = h'.2.1 → (∀ k, k < hb → ad' k = ad0 k) → W p l e R s m args below meth c H' locs' cells' slots' Q (F0 m (zpc mi i') lsC' (r.toList.map (vC bS ad')))
/-- the calls' arguments fit the callees' locals; classes' names -/
def zarg (op : Op) : Bool := (op.1 != 23 && (op.1 != 24 && op.1 != 25)) || decide (op.2.2.2.1 ≤ zml op.2.2.1)
set_option maxRecDepth 100000 in
theorem zarg_all : pgm.all (fun k => k.all zarg) = true := by decide +kernel
theorem zarg_ok (m i : Nat) (h : (zfe m i).1 = 23 ∨ (zfe m i).1 = 24 ∨ (zfe m i).1 = 25) : (zfe m i).2.2.2.1 ≤ zml (zfe m i).2.2.1 := by
  have key : zarg (zfe m i) = true := by
    unfold zfe
    rw [List.getD_eq_getElem?_getD (l := pgm.getD m [])]
    cases hl : (pgm.getD m [])[i]? with
    | none => rfl
    | some op =>
      rw [List.getD_eq_getElem?_getD (l := pgm)] at hl
      cases hm : pgm[m]? with
      | none => rw [hm] at hl; cases hl
      | some k =>
        rw [hm] at hl
        exact List.all_eq_true.mp (List.all_eq_true.mp zarg_all k (List.mem_of_getElem? hm)) op (List.mem_of_getElem? hl)
  simp only [zarg, Bool.or_eq_true, Bool.and_eq_true, bne_iff_ne, decide_eq_true_eq] at key
  omega
theorem zN_ok : ∀ ci, ci < 6 → zN ci = (zT ci).1 := by decide +kernel
section STEP
variable {p : Program} {l : Launch} {e : Env} {R : Room} {s : State} {m : MethodId} {args : Array Value} {below : List Frame} {meth : Method} {c : Code} {Q : State → Prop}
variable {mi : Nat} {D : va_G} {cI cD : ClassId} {bS : Nat} {sc : Nat × (Int → Int)} {hs : Bool} {A : Nat → Prop} {H0 : Heap} {n0 s0 hb : Nat} {ad0 : Nat → Nat} {r : Option zV} {h' : zH} {n : Nat}
theorem zend {i : Nat} {ls : zL} {st : List zV} {h : zH} {H : Heap} {locs : List Loc} {cells slots : Nat} {lsC : Array Slot} {ad : Nat → Nat} {r1 : Option zV} (Ke : zKe p l e R s m args below meth c Q mi D cI cD bS A H0 n0 s0 hb ad0 r h') (Z : zSt mi D cI cD bS hs A H0 n0 s0 hb ad0 ls st h H locs cells slots lsC ad) (hr : zR1 sc n mi i ls h (zRT r1) = some (r, h')) (hst : st = r1.toList) (he : zEnd mi i r1) : W p l e R s m args below meth c H locs cells slots Q (F0 m (zpc mi i) lsC (st.map (vC bS ad))) := by
  have hr : some (r1, h) = some (r, h') := hr
  cases hr
  subst hst
  exact Ke i ad H locs lsC cells slots he Z.2.2.2.1 Z.2.2.2.2.1 Z.2.2.2.2.2.1 Z.2.2.2.2.2.2.2.1 Z.2.2.2.2.2.2.2.2.1 Z.2.2.2.2.2.2.2.2.2.1
set_option maxHeartbeats 8000000 in
theorem zstep (hsc : ∀ x, inR (sc.2 x)) (hsl : sc.1 < 2147483648) (hbd : h'.1 ≤ n0 + R.cells ∧ h'.2.1 ≤ s0 + R.slots) (HM : zMet l sc n) (C : zCx p s m args meth c R mi D cI cD bS sc hs A H0) (K : zG0 p l e R s m args below meth c Q mi D cI cD bS sc hs A H0 n0 s0 hb ad0 r h' n) (Ke : zKe p l e R s m args below meth c Q mi D cI cD bS A H0 n0 s0 hb ad0 r h') : zG0 p l e R s m args below meth c Q mi D cI cD bS sc hs A H0 n0 s0 hb ad0 r h' (n + 1) := by
  intro i ls st h H locs cells slots lsC ad hr Z
  have hr0 := hr
  rw [zrun_s] at hr
  have hr : zR1 sc n mi i ls h (zexR i ls st h sc (zfe mi i)) = some (r, h') := hr
  have ho := zexR_ok (i := i) (sc := sc) (opk mi i) hsc hsl Z.1 Z.2.1 Z.2.2.1 (fun k c hc hm => by
    obtain ⟨v, hv, ev⟩ := hm
    rw [← hc]
    have := Z.2.2.1 v hv
    rw [ev] at this
    exact Z.1 k this)
  have h99 : (zfe mi i).1 ≠ 99 := by
    intro q
    have : zexR i ls st h sc (zfe mi i) = zBAD := by unfold zexR zex; rw [q]; rfl
    rw [this] at hr
    cases hr
  obtain ⟨hck, hm, -⟩ := ck_ok h99
  have harg := zarg_ok mi i
  unfold zckI zck at hck
  generalize zfe mi i = op at hr ho hck harg
  split at hck
  next n hd =>
    simp only [Bool.and_eq_true, Bool.or_eq_true, beq_iff_eq, decide_eq_true_eq, zNx, zTg] at hck
    obtain ⟨⟨⟨e1, e2⟩, e3⟩, e4⟩ := hck
    have ez : zexR i ls st h sc op = .inl (i + 1, ls, .inl op.2.1 :: st, h) := by unfold zexR zex; rw [e1]; rfl
    rw [ez] at hr ho
    exact zs_const C K Z hr ho (d := 1) (fun k => lv_iconst C.1 C.2.1 hd (by rw [e2]) k) e4
  next n hd =>
    simp only [Bool.and_eq_true, Bool.or_eq_true, beq_iff_eq, decide_eq_true_eq, zNx, zTg] at hck
    obtain ⟨⟨⟨e1, e2⟩, e3⟩, e4⟩ := hck
    have ez : zexR i ls st h sc op = .inl (i + 1, ls, .inl op.2.1 :: st, h) := by unfold zexR zex; rw [e1]; rfl
    rw [ez] at hr ho
    exact zs_const C K Z hr ho (d := 2) (fun k => lv_bipush C.1 C.2.1 hd (by rw [e2]; exact zi_lit e3) k) e4
  next n hd =>
    simp only [Bool.and_eq_true, Bool.or_eq_true, beq_iff_eq, decide_eq_true_eq, zNx, zTg] at hck
    obtain ⟨⟨⟨e1, e2⟩, e3⟩, e4⟩ := hck
    have ez : zexR i ls st h sc op = .inl (i + 1, ls, .inl op.2.1 :: st, h) := by unfold zexR zex; rw [e1]; rfl
    rw [ez] at hr ho
    exact zs_const C K Z hr ho (d := 3) (fun k => lv_sipush C.1 C.2.1 hd (by rw [e2]; exact zi_lit16 e3) k) e4
  next ix hd =>
    simp only [Bool.and_eq_true, Bool.or_eq_true, beq_iff_eq, decide_eq_true_eq, zNx, zTg] at hck
    obtain ⟨⟨⟨e1, e2⟩, e3⟩, e4⟩ := hck
    have ez : zexR i ls st h sc op = .inl (i + 1, ls, .inl op.2.1 :: st, h) := by unfold zexR zex; rw [e1]; rfl
    rw [ez] at hr ho
    have hcp := cIn_ok e2
    have hl := C.2.2.2.2.1 _ (cp_in hcp (by intro q; dsimp only at q; omega))
    exact zs_const C K Z hr ho (d := 2) (fun k => lv_ldc C.1 C.2.1 C.2.2.2.1 hl hd k) e4
  next k hd =>
    simp only [Bool.and_eq_true, Bool.or_eq_true, beq_iff_eq, decide_eq_true_eq, zNx, zTg] at hck
    obtain ⟨⟨e1, e2⟩, e3⟩ := hck
    have ez : zexR i ls st h sc op = x_iload i ls st h zNX zBAD op.2.2.1 := by unfold zexR zex; rw [e1]; rfl
    rw [ez] at hr ho
    exact zs_iload_n C K Z e2 hr ho hd e3
  next k hd =>
    simp only [Bool.and_eq_true, Bool.or_eq_true, beq_iff_eq, decide_eq_true_eq, zNx, zTg] at hck
    obtain ⟨⟨e1, e2⟩, e3⟩ := hck
    have ez : zexR i ls st h sc op = x_iload i ls st h zNX zBAD op.2.2.1 := by unfold zexR zex; rw [e1]; rfl
    rw [ez] at hr ho
    rw [e2] at hr ho
    exact zs_iload C K Z hr ho hd e3
  next k hd =>
    simp only [Bool.and_eq_true, Bool.or_eq_true, beq_iff_eq, decide_eq_true_eq, zNx, zTg] at hck
    obtain ⟨⟨e1, e2⟩, e3⟩ := hck
    have ez : zexR i ls st h sc op = x_aload i ls st h zNX zBAD op.2.2.1 := by unfold zexR zex; rw [e1]; rfl
    rw [ez] at hr ho
    exact zs_aload_n C K Z e2 hr ho hd e3
  next k hd =>
    simp only [Bool.and_eq_true, Bool.or_eq_true, beq_iff_eq, decide_eq_true_eq, zNx, zTg] at hck
    obtain ⟨⟨e1, e2⟩, e3⟩ := hck
    have ez : zexR i ls st h sc op = x_aload i ls st h zNX zBAD op.2.2.1 := by unfold zexR zex; rw [e1]; rfl
    rw [ez] at hr ho
    rw [e2] at hr ho
    exact zs_aload C K Z hr ho hd e3
  next k hd =>
    simp only [Bool.and_eq_true, Bool.or_eq_true, beq_iff_eq, decide_eq_true_eq, zNx, zTg] at hck
    obtain ⟨⟨⟨⟨e1, e2⟩, e3⟩, e4⟩, e5⟩ := hck
    have ez : zexR i ls st h sc op = x_istore i ls st h zNX zBAD op.2.2.1 := by unfold zexR zex; rw [e1]; rfl
    rw [ez] at hr ho
    rw [← e2] at e3 e4
    exact zs_istore_n C K Z e2 hr ho e3 e4 hd e5
  next k hd =>
    simp only [Bool.and_eq_true, Bool.or_eq_true, beq_iff_eq, decide_eq_true_eq, zNx, zTg] at hck
    obtain ⟨⟨⟨⟨e1, e2⟩, e3⟩, e4⟩, e5⟩ := hck
    have ez : zexR i ls st h sc op = x_istore i ls st h zNX zBAD op.2.2.1 := by unfold zexR zex; rw [e1]; rfl
    rw [ez] at hr ho
    rw [e2] at hr ho
    exact zs_istore C K Z hr ho e3 e4 hd e5
  next k hd =>
    simp only [Bool.and_eq_true, Bool.or_eq_true, beq_iff_eq, decide_eq_true_eq, zNx, zTg] at hck
    obtain ⟨⟨⟨⟨e1, e2⟩, e3⟩, e4⟩, e5⟩ := hck
    have ez : zexR i ls st h sc op = x_astore i ls st h zNX zBAD op.2.2.1 := by unfold zexR zex; rw [e1]; rfl
    rw [ez] at hr ho
    rw [← e2] at e3 e4
    exact zs_astore_n C K Z e2 hr ho e3 e4 hd e5
  next k hd =>
    simp only [Bool.and_eq_true, Bool.or_eq_true, beq_iff_eq, decide_eq_true_eq, zNx, zTg] at hck
    obtain ⟨⟨⟨⟨e1, e2⟩, e3⟩, e4⟩, e5⟩ := hck
    have ez : zexR i ls st h sc op = x_astore i ls st h zNX zBAD op.2.2.1 := by unfold zexR zex; rw [e1]; rfl
    rw [ez] at hr ho
    rw [e2] at hr ho
    exact zs_astore C K Z hr ho e3 e4 hd e5
  next k z hd =>
    simp only [Bool.and_eq_true, Bool.or_eq_true, beq_iff_eq, decide_eq_true_eq, zNx, zTg] at hck
    obtain ⟨⟨⟨⟨⟨⟨e1, e2⟩, e3⟩, e4⟩, e5⟩, e6⟩, e7⟩ := hck
    have ez : zexR i ls st h sc op = x_iinc i ls st h zNX zBAD op.2.2.1 op.2.1 := by unfold zexR zex; rw [e1]; rfl
    rw [ez] at hr ho
    rw [e2, e3] at hr ho
    exact zs_iinc C K Z hr ho e4 e6 hd e7
  next  hd =>
    simp only [Bool.and_eq_true, Bool.or_eq_true, beq_iff_eq, decide_eq_true_eq, zNx, zTg] at hck
    obtain ⟨e1, e2⟩ := hck
    have ez : zexR i ls st h sc op = x_bin i ls st h zNX zBAD (fun x y => zwr (x + y)) := by unfold zexR zex; rw [e1]; rfl
    rw [ez] at hr ho
    exact zs_iadd C K Z hr ho hd e2
  next  hd =>
    simp only [Bool.and_eq_true, Bool.or_eq_true, beq_iff_eq, decide_eq_true_eq, zNx, zTg] at hck
    obtain ⟨e1, e2⟩ := hck
    have ez : zexR i ls st h sc op = x_bin i ls st h zNX zBAD (fun x y => zwr (x - y)) := by unfold zexR zex; rw [e1]; rfl
    rw [ez] at hr ho
    exact zs_isub C K Z hr ho hd e2
  next  hd =>
    simp only [Bool.and_eq_true, Bool.or_eq_true, beq_iff_eq, decide_eq_true_eq, zNx, zTg] at hck
    obtain ⟨e1, e2⟩ := hck
    have ez : zexR i ls st h sc op = x_bin i ls st h zNX zBAD (fun x y => zwr (x * y)) := by unfold zexR zex; rw [e1]; rfl
    rw [ez] at hr ho
    exact zs_imul C K Z hr ho hd e2
  next  hd =>
    simp only [Bool.and_eq_true, Bool.or_eq_true, beq_iff_eq, decide_eq_true_eq, zNx, zTg] at hck
    obtain ⟨e1, e2⟩ := hck
    have ez : zexR i ls st h sc op = x_binC i ls st h zNX zBAD (fun x y => 0 ≤ x ∧ 0 < y) (fun x y => x / y) := by unfold zexR zex; rw [e1]; rfl
    rw [ez] at hr ho
    exact zs_idiv C K Z hr ho hd e2
  next  hd =>
    simp only [Bool.and_eq_true, Bool.or_eq_true, beq_iff_eq, decide_eq_true_eq, zNx, zTg] at hck
    obtain ⟨e1, e2⟩ := hck
    have ez : zexR i ls st h sc op = x_binC i ls st h zNX zBAD (fun x y => 0 ≤ x ∧ 0 < y) (fun x y => x % y) := by unfold zexR zex; rw [e1]; rfl
    rw [ez] at hr ho
    exact zs_irem C K Z hr ho hd e2
  next  hd =>
    simp only [Bool.and_eq_true, Bool.or_eq_true, beq_iff_eq, decide_eq_true_eq, zNx, zTg] at hck
    obtain ⟨e1, e2⟩ := hck
    have ez : zexR i ls st h sc op = x_bin i ls st h zNX zBAD (fun x y => (Int32.ofInt x &&& Int32.ofInt y).toInt) := by unfold zexR zex; rw [e1]; rfl
    rw [ez] at hr ho
    exact zs_iand C K Z hr ho hd e2
  next  hd =>
    simp only [Bool.and_eq_true, Bool.or_eq_true, beq_iff_eq, decide_eq_true_eq, zNx, zTg] at hck
    obtain ⟨e1, e2⟩ := hck
    have ez : zexR i ls st h sc op = x_bin i ls st h zNX zBAD (fun x y => (Int32.ofInt x ||| Int32.ofInt y).toInt) := by unfold zexR zex; rw [e1]; rfl
    rw [ez] at hr ho
    exact zs_ior C K Z hr ho hd e2
  next  hd =>
    simp only [Bool.and_eq_true, Bool.or_eq_true, beq_iff_eq, decide_eq_true_eq, zNx, zTg] at hck
    obtain ⟨e1, e2⟩ := hck
    have ez : zexR i ls st h sc op = x_bin i ls st h zNX zBAD (fun x y => (Int32.ofInt x <<< (Int32.ofInt y &&& 31)).toInt) := by unfold zexR zex; rw [e1]; rfl
    rw [ez] at hr ho
    exact zs_ishl C K Z hr ho hd e2
  next  hd =>
    simp only [Bool.and_eq_true, Bool.or_eq_true, beq_iff_eq, decide_eq_true_eq, zNx, zTg] at hck
    obtain ⟨e1, e2⟩ := hck
    have ez : zexR i ls st h sc op = x_bin i ls st h zNX zBAD (fun x y => (Int32.ofInt x >>> (Int32.ofInt y &&& 31)).toInt) := by unfold zexR zex; rw [e1]; rfl
    rw [ez] at hr ho
    exact zs_ishr C K Z hr ho hd e2
  next off hd =>
    simp only [Bool.and_eq_true, Bool.or_eq_true, beq_iff_eq, decide_eq_true_eq, zNx, zTg] at hck
    obtain ⟨⟨e1, e2⟩, e3⟩ := hck
    have ez : zexR i ls st h sc op = x_if i ls st h zNX zBAD (fun x => x = 0) op.2.2.1 := by unfold zexR zex; rw [e1]; rfl
    rw [ez] at hr ho
    exact zs_if_eq C K Z hr ho hd e2 e3
  next off hd =>
    simp only [Bool.and_eq_true, Bool.or_eq_true, beq_iff_eq, decide_eq_true_eq, zNx, zTg] at hck
    obtain ⟨⟨e1, e2⟩, e3⟩ := hck
    have ez : zexR i ls st h sc op = x_if i ls st h zNX zBAD (fun x => x ≠ 0) op.2.2.1 := by unfold zexR zex; rw [e1]; rfl
    rw [ez] at hr ho
    exact zs_if_ne C K Z hr ho hd e2 e3
  next off hd =>
    simp only [Bool.and_eq_true, Bool.or_eq_true, beq_iff_eq, decide_eq_true_eq, zNx, zTg] at hck
    obtain ⟨⟨e1, e2⟩, e3⟩ := hck
    have ez : zexR i ls st h sc op = x_if i ls st h zNX zBAD (fun x => x < 0) op.2.2.1 := by unfold zexR zex; rw [e1]; rfl
    rw [ez] at hr ho
    exact zs_if_lt C K Z hr ho hd e2 e3
  next off hd =>
    simp only [Bool.and_eq_true, Bool.or_eq_true, beq_iff_eq, decide_eq_true_eq, zNx, zTg] at hck
    obtain ⟨⟨e1, e2⟩, e3⟩ := hck
    have ez : zexR i ls st h sc op = x_if i ls st h zNX zBAD (fun x => 0 ≤ x) op.2.2.1 := by unfold zexR zex; rw [e1]; rfl
    rw [ez] at hr ho
    exact zs_if_ge C K Z hr ho hd e2 e3
  next off hd =>
    simp only [Bool.and_eq_true, Bool.or_eq_true, beq_iff_eq, decide_eq_true_eq, zNx, zTg] at hck
    obtain ⟨⟨e1, e2⟩, e3⟩ := hck
    have ez : zexR i ls st h sc op = x_if i ls st h zNX zBAD (fun x => 0 < x) op.2.2.1 := by unfold zexR zex; rw [e1]; rfl
    rw [ez] at hr ho
    exact zs_if_gt C K Z hr ho hd e2 e3
  next off hd =>
    simp only [Bool.and_eq_true, Bool.or_eq_true, beq_iff_eq, decide_eq_true_eq, zNx, zTg] at hck
    obtain ⟨⟨e1, e2⟩, e3⟩ := hck
    have ez : zexR i ls st h sc op = x_if i ls st h zNX zBAD (fun x => x ≤ 0) op.2.2.1 := by unfold zexR zex; rw [e1]; rfl
    rw [ez] at hr ho
    exact zs_if_le C K Z hr ho hd e2 e3
  next off hd =>
    simp only [Bool.and_eq_true, Bool.or_eq_true, beq_iff_eq, decide_eq_true_eq, zNx, zTg] at hck
    obtain ⟨⟨e1, e2⟩, e3⟩ := hck
    have ez : zexR i ls st h sc op = x_icmp i ls st h zNX zBAD (fun x y => x = y) op.2.2.1 := by unfold zexR zex; rw [e1]; rfl
    rw [ez] at hr ho
    exact zs_icmp_eq C K Z hr ho hd e2 e3
  next off hd =>
    simp only [Bool.and_eq_true, Bool.or_eq_true, beq_iff_eq, decide_eq_true_eq, zNx, zTg] at hck
    obtain ⟨⟨e1, e2⟩, e3⟩ := hck
    have ez : zexR i ls st h sc op = x_icmp i ls st h zNX zBAD (fun x y => x ≠ y) op.2.2.1 := by unfold zexR zex; rw [e1]; rfl
    rw [ez] at hr ho
    exact zs_icmp_ne C K Z hr ho hd e2 e3
  next off hd =>
    simp only [Bool.and_eq_true, Bool.or_eq_true, beq_iff_eq, decide_eq_true_eq, zNx, zTg] at hck
    obtain ⟨⟨e1, e2⟩, e3⟩ := hck
    have ez : zexR i ls st h sc op = x_icmp i ls st h zNX zBAD (fun x y => x < y) op.2.2.1 := by unfold zexR zex; rw [e1]; rfl
    rw [ez] at hr ho
    exact zs_icmp_lt C K Z hr ho hd e2 e3
  next off hd =>
    simp only [Bool.and_eq_true, Bool.or_eq_true, beq_iff_eq, decide_eq_true_eq, zNx, zTg] at hck
    obtain ⟨⟨e1, e2⟩, e3⟩ := hck
    have ez : zexR i ls st h sc op = x_icmp i ls st h zNX zBAD (fun x y => y ≤ x) op.2.2.1 := by unfold zexR zex; rw [e1]; rfl
    rw [ez] at hr ho
    exact zs_icmp_ge C K Z hr ho hd e2 e3
  next off hd =>
    simp only [Bool.and_eq_true, Bool.or_eq_true, beq_iff_eq, decide_eq_true_eq, zNx, zTg] at hck
    obtain ⟨⟨e1, e2⟩, e3⟩ := hck
    have ez : zexR i ls st h sc op = x_icmp i ls st h zNX zBAD (fun x y => y < x) op.2.2.1 := by unfold zexR zex; rw [e1]; rfl
    rw [ez] at hr ho
    exact zs_icmp_gt C K Z hr ho hd e2 e3
  next off hd =>
    simp only [Bool.and_eq_true, Bool.or_eq_true, beq_iff_eq, decide_eq_true_eq, zNx, zTg] at hck
    obtain ⟨⟨e1, e2⟩, e3⟩ := hck
    have ez : zexR i ls st h sc op = x_icmp i ls st h zNX zBAD (fun x y => x ≤ y) op.2.2.1 := by unfold zexR zex; rw [e1]; rfl
    rw [ez] at hr ho
    exact zs_icmp_le C K Z hr ho hd e2 e3
  next off hd =>
    simp only [Bool.and_eq_true, Bool.or_eq_true, beq_iff_eq, decide_eq_true_eq, zNx, zTg] at hck
    obtain ⟨e1, e2⟩ := hck
    have ez : zexR i ls st h sc op = .inl (op.2.2.1, ls, st, h) := by unfold zexR zex; rw [e1]; rfl
    rw [ez] at hr ho
    exact zs_goto C K Z hr ho hd e2
  next off hd =>
    simp only [Bool.and_eq_true, Bool.or_eq_true, beq_iff_eq, decide_eq_true_eq, zNx, zTg] at hck
    obtain ⟨⟨e1, e2⟩, e3⟩ := hck
    have ez : zexR i ls st h sc op = x_ifnull i ls st h zNX zBAD op.2.2.1 := by unfold zexR zex; rw [e1]; rfl
    rw [ez] at hr ho
    exact zs_ifnull C K Z hr ho hd e2 e3
  next off hd =>
    simp only [Bool.and_eq_true, Bool.or_eq_true, beq_iff_eq, decide_eq_true_eq, zNx, zTg] at hck
    obtain ⟨⟨e1, e2⟩, e3⟩ := hck
    have ez : zexR i ls st h sc op = x_ifnonnull i ls st h zNX zBAD op.2.2.1 := by unfold zexR zex; rw [e1]; rfl
    rw [ez] at hr ho
    exact zs_ifnonnull C K Z hr ho hd e2 e3
  next ix hd =>
    simp only [Bool.and_eq_true, Bool.or_eq_true, beq_iff_eq, decide_eq_true_eq, zNx, zTg] at hck
    obtain ⟨⟨⟨e1, e2⟩, e3⟩, e4⟩ := hck
    have ez : zexR i ls st h sc op = x_getf i ls st h zNX zBAD op.2.2.1 op.2.2.2.1 := by unfold zexR zex; rw [e1]; rfl
    rw [ez] at hr ho
    exact zs_getf C K Z hr ho e3 (cIn_ok e2) hd e4
  next ix hd =>
    simp only [Bool.and_eq_true, beq_iff_eq, decide_eq_true_eq, zNx] at hck
    obtain ⟨⟨⟨⟨e1, e2⟩, e3⟩, e5⟩, e4⟩ := hck
    have ez : zexR i ls st h sc op = x_putf i ls st h zNX zBAD op.2.2.1 op.2.2.2.1 := by unfold zexR zex; rw [e1]; rfl
    rw [ez] at hr ho
    exact zs_putf C K Z hr ho e3 (cIn_ok e2) e5 (zN_ok _) hd e4
  next  hd =>
    simp only [Bool.and_eq_true, Bool.or_eq_true, beq_iff_eq, decide_eq_true_eq, zNx, zTg] at hck
    obtain ⟨e1, e2⟩ := hck
    have ez : zexR i ls st h sc op = x_iald i ls st h zNX zBAD sc := by unfold zexR zex; rw [e1]; rfl
    rw [ez] at hr ho
    exact zs_iald C K Z hr ho hd e2
  next  hd =>
    simp only [Bool.and_eq_true, Bool.or_eq_true, beq_iff_eq, decide_eq_true_eq, zNx, zTg] at hck
    obtain ⟨e1, e2⟩ := hck
    have ez : zexR i ls st h sc op = x_iast i ls st h zNX zBAD := by unfold zexR zex; rw [e1]; rfl
    rw [ez] at hr ho
    exact zs_iast C K Z hr ho hd e2
  next  hd =>
    simp only [Bool.and_eq_true, Bool.or_eq_true, beq_iff_eq, decide_eq_true_eq, zNx, zTg] at hck
    obtain ⟨e1, e2⟩ := hck
    have ez : zexR i ls st h sc op = x_aald i ls st h zNX zBAD := by unfold zexR zex; rw [e1]; rfl
    rw [ez] at hr ho
    exact zs_aald C K Z hr ho hd e2
  next  hd =>
    simp only [Bool.and_eq_true, Bool.or_eq_true, beq_iff_eq, decide_eq_true_eq, zNx, zTg] at hck
    obtain ⟨e1, e2⟩ := hck
    have ez : zexR i ls st h sc op = x_aast i ls st h zNX zBAD := by unfold zexR zex; rw [e1]; rfl
    rw [ez] at hr ho
    exact zs_aast C K Z hr ho hd e2
  next  hd =>
    simp only [Bool.and_eq_true, Bool.or_eq_true, beq_iff_eq, decide_eq_true_eq, zNx, zTg] at hck
    obtain ⟨e1, e2⟩ := hck
    have ez : zexR i ls st h sc op = x_alen i ls st h zNX zBAD sc := by unfold zexR zex; rw [e1]; rfl
    rw [ez] at hr ho
    exact zs_alen C K Z hr ho hd e2
  next  hd =>
    simp only [Bool.and_eq_true, Bool.or_eq_true, beq_iff_eq, decide_eq_true_eq, zNx, zTg] at hck
    obtain ⟨e1, e2⟩ := hck
    have ez : zexR i ls st h sc op = x_newa i ls st h zNX zBAD := by unfold zexR zex; rw [e1]; rfl
    rw [ez] at hr ho
    exact zs_newa hsc hsl hbd C K Z hr ho hd e2
  next ix hd =>
    simp only [Bool.and_eq_true, Bool.or_eq_true, beq_iff_eq, decide_eq_true_eq, zNx, zTg] at hck
    obtain ⟨⟨e1, e2⟩, e3⟩ := hck
    have ez : zexR i ls st h sc op = x_anew i ls st h zNX zBAD := by unfold zexR zex; rw [e1]; rfl
    rw [ez] at hr ho
    exact zs_anew hsc hsl hbd C K Z hr ho (cIn_ok e2) hd e3
  next ix hd =>
    simp only [Bool.and_eq_true, Bool.or_eq_true, beq_iff_eq, decide_eq_true_eq, zNx, zTg] at hck
    obtain ⟨⟨⟨e1, e2⟩, e3⟩, e4⟩ := hck
    have ez : zexR i ls st h sc op = x_new i ls st h zNX op.2.2.1 := by unfold zexR zex; rw [e1]; rfl
    rw [ez] at hr ho
    exact zs_new hsc hsl hbd C K Z hr ho e3 (zN_ok _ e3) (cIn_ok e2) hd e4
  next  hd =>
    simp only [Bool.and_eq_true, Bool.or_eq_true, beq_iff_eq, decide_eq_true_eq, zNx, zTg] at hck
    obtain ⟨e1, e2⟩ := hck
    have ez : zexR i ls st h sc op = x_dup i ls st h zNX zBAD := by unfold zexR zex; rw [e1]; rfl
    rw [ez] at hr ho
    exact zs_dup C K Z hr ho hd e2
  next  hd =>
    simp only [Bool.and_eq_true, Bool.or_eq_true, beq_iff_eq, decide_eq_true_eq, zNx, zTg] at hck
    obtain ⟨e1, e2⟩ := hck
    have ez : zexR i ls st h sc op = x_pop i ls st h zNX zBAD := by unfold zexR zex; rw [e1]; rfl
    rw [ez] at hr ho
    exact zs_pop C K Z hr ho hd e2
  next  hd =>
    simp only [Bool.and_eq_true, Bool.or_eq_true, beq_iff_eq, decide_eq_true_eq, zNx, zTg] at hck
    obtain ⟨e1, e2⟩ := hck
    have ez : zexR i ls st h sc op = x_dup2 i ls st h zNX zBAD := by unfold zexR zex; rw [e1]; rfl
    rw [ez] at hr ho
    exact zs_dup2 C K Z hr ho hd e2
  next ix hd =>
    simp only [Bool.and_eq_true, Bool.or_eq_true, beq_iff_eq, decide_eq_true_eq, zNx] at hck
    obtain ⟨e4, ⟨⟨e1, e2⟩, e3⟩ | ⟨⟨e1, e2⟩, e3⟩ | ⟨⟨e1, e2⟩, e3⟩⟩ := hck
    · have ez : zexR i ls st h sc op = x_calls st zCL zBAD op.2.2.1 op.2.2.2.1 := by unfold zexR zex; rw [e1]; rfl
      rw [ez] at hr ho
      exact zs_calls hsc hsl hbd HM C K Z hr ho (harg (Or.inl e1)) (e2.imp cIn_ok cIn_ok) e3 hd e4
    · have ez : zexR i ls st h sc op = x_binS i ls st h zNX zBAD (fun x y => if x < y then y else x) := by unfold zexR zex; rw [e1]; rfl
      rw [ez] at hr ho
      exact zs_mmax C K Z hr ho (zroom0 hsc hsl Z.2.2.2.2.2.2.2.1 Z.2.2.2.2.2.2.2.2.1 hbd hr0 Z) (cIn_ok e2) e3 hd e4
    · have ez : zexR i ls st h sc op = x_binS i ls st h zNX zBAD (fun x y => if y < x then y else x) := by unfold zexR zex; rw [e1]; rfl
      rw [ez] at hr ho
      exact zs_mmin C K Z hr ho (zroom0 hsc hsl Z.2.2.2.2.2.2.2.1 Z.2.2.2.2.2.2.2.2.1 hbd hr0 Z) (cIn_ok e2) e3 hd e4
  next ix hd =>
    simp only [Bool.and_eq_true, Bool.or_eq_true, beq_iff_eq, decide_eq_true_eq, zNx, zTg] at hck
    obtain ⟨⟨⟨⟨⟨e1, e2⟩, e3⟩, e4⟩, e5⟩, e6⟩ := hck
    have ez : zexR i ls st h sc op = x_callv st h zCL zBAD op.2.1 op.2.2.1 op.2.2.2.1 := by unfold zexR zex; rw [e1]; rfl
    rw [ez] at hr ho
    exact zs_callv hsc hsl hbd HM C K Z hr ho (harg (Or.inr (Or.inl e1))) e4 ⟨by omega, e5.2⟩ (cIn_ok e2) e3 hd e6
  next ix hd =>
    simp only [Bool.and_eq_true, Bool.or_eq_true, beq_iff_eq, decide_eq_true_eq, zNx] at hck
    obtain ⟨e6, ⟨⟨e1, e2⟩, e3⟩ | ⟨⟨⟨⟨⟨e1, e2⟩, e3⟩, e4⟩, e5⟩, e7⟩⟩ := hck
    · have ez : zexR i ls st h sc op = x_oinit i ls st h zNX zBAD := by unfold zexR zex; rw [e1]; rfl
      rw [ez] at hr ho
      exact zs_oinit C K Z hr ho (cIn_ok e2) e3 hd e6
    · have ez : zexR i ls st h sc op = x_callv st h zCL zBAD op.2.1 op.2.2.1 op.2.2.2.1 := by unfold zexR zex; rw [e1]; rfl
      rw [ez] at hr ho
      exact zs_calli hsc hsl hbd HM C K Z hr ho (harg (Or.inr (Or.inr e1))) e4 e5 e7 (cIn_ok e2) e3 hd e6
  next hd =>
    simp only [Bool.and_eq_true, beq_iff_eq, decide_eq_true_eq] at hck
    obtain ⟨e1, e2⟩ := hck
    have ez : zexR i ls st h sc op = x_vret st zRT zBAD := by unfold zexR zex; rw [e1]; rfl
    rw [ez] at hr
    unfold x_vret at hr
    split at hr
    next => exact zend Ke Z hr rfl ⟨hd, e2⟩
    next => cases hr
  next hd =>
    simp only [Bool.and_eq_true, Bool.or_eq_true, beq_iff_eq, decide_eq_true_eq] at hck
    rcases hck with ⟨e1, e2⟩ | ⟨e1, e2⟩
    · have ez : zexR i ls st h sc op = x_iret st zRT zBAD := by unfold zexR zex; rw [e1]; rfl
      rw [ez] at hr
      unfold x_iret at hr
      split at hr
      next z => exact zend Ke Z hr rfl ⟨hd, Or.inl e2⟩
      next => cases hr
    · have ez : zexR i ls st h sc op = x_zret st zRT zBAD := by unfold zexR zex; rw [e1]; rfl
      rw [ez] at hr
      unfold x_zret at hr
      split at hr
      next z =>
        split at hr
        next q => exact zend Ke Z hr rfl ⟨hd, Or.inr ⟨e2, q⟩⟩
        next => cases hr
      next => cases hr
  next hd =>
    simp only [Bool.and_eq_true, beq_iff_eq] at hck
    obtain ⟨e1, e2⟩ := hck
    have ez : zexR i ls st h sc op = x_aret st zRT zBAD := by unfold zexR zex; rw [e1]; rfl
    rw [ez] at hr
    unfold x_aret at hr
    split at hr
    next q =>
      refine zend Ke Z hr rfl ⟨hd, ?_⟩
      split at e2
      next a he => exact Or.inl ⟨a, he⟩
      next a he => exact Or.inr ⟨a, he⟩
      next => cases e2
    next => cases hr
  next hd =>
    simp only [Bool.and_eq_true, beq_iff_eq, decide_eq_true_eq] at hck
    obtain ⟨e1, e2⟩ := hck
    have ez : zexR i ls st h sc op = x_fret st zRT zBAD := by unfold zexR zex; rw [e1]; rfl
    rw [ez] at hr
    unfold x_fret at hr
    split at hr
    next b => exact zend Ke Z hr rfl ⟨hd, e2⟩
    next => cases hr
  next dd lo hi offs len hd =>
    simp only [Bool.and_eq_true, beq_iff_eq, decide_eq_true_eq, zTg] at hck
    obtain ⟨⟨⟨⟨e1, e2⟩, e3⟩, e4⟩, e5⟩ := hck
    have ez : zexR i ls st h sc op = x_sw ls st h zNX zBAD op.2.2.2.2 op.2.2.1 := by unfold zexR zex; rw [e1]; rfl
    rw [ez] at hr ho
    refine zs_tsw C K Z hr ho hd e2 e3 e4 (fun k hk => ?_)
    have h6 := List.all_eq_true.mp e5 k (List.mem_range.mpr hk)
    split at h6
    next a t o' h7 h8 =>
      simp only [Bool.and_eq_true, beq_iff_eq] at h6
      exact ⟨t, o', by rw [h7, h6.1], h8, h6.2⟩
    next => cases h6
  next dd ps len hd =>
    simp only [Bool.and_eq_true, beq_iff_eq, decide_eq_true_eq, zTg] at hck
    obtain ⟨⟨⟨⟨e1, e2⟩, e3⟩, e4⟩, e5⟩ := hck
    have ez : zexR i ls st h sc op = x_sw ls st h zNX zBAD op.2.2.2.2 op.2.2.1 := by unfold zexR zex; rw [e1]; rfl
    rw [ez] at hr ho
    refine zs_lsw C K Z hr ho hd e2 e3 e4 (fun q hq => ?_)
    have h6 := List.all_eq_true.mp e5 q hq
    simp only [Bool.and_eq_true, beq_iff_eq, decide_eq_true_eq] at h6
    exact ⟨h6.1.1, h6.2⟩
  next  hd =>
    simp only [Bool.and_eq_true, Bool.or_eq_true, beq_iff_eq, decide_eq_true_eq, zNx, zTg] at hck
    obtain ⟨e1, e2⟩ := hck
    have ez : zexR i ls st h sc op = x_i2f i ls st h zNX zBAD := by unfold zexR zex; rw [e1]; rfl
    rw [ez] at hr ho
    exact zs_i2f C K Z hr ho hd e2
  next  hd =>
    simp only [Bool.and_eq_true, Bool.or_eq_true, beq_iff_eq, decide_eq_true_eq, zNx, zTg] at hck
    obtain ⟨e1, e2⟩ := hck
    have ez : zexR i ls st h sc op = x_fdiv i ls st h zNX zBAD := by unfold zexR zex; rw [e1]; rfl
    rw [ez] at hr ho
    exact zs_fdiv C K Z hr ho hd e2
  next  hd =>
    simp only [Bool.and_eq_true, Bool.or_eq_true, beq_iff_eq, decide_eq_true_eq, zNx, zTg] at hck
    obtain ⟨e1, e2⟩ := hck
    have ez : zexR i ls st h sc op = x_f2d i ls st h zNX zBAD := by unfold zexR zex; rw [e1]; rfl
    rw [ez] at hr ho
    exact zs_f2d C K Z hr ho hd e2
  next  hd =>
    simp only [Bool.and_eq_true, Bool.or_eq_true, beq_iff_eq, decide_eq_true_eq, zNx, zTg] at hck
    obtain ⟨e1, e2⟩ := hck
    have ez : zexR i ls st h sc op = x_dcmp i ls st h zNX zBAD := by unfold zexR zex; rw [e1]; rfl
    rw [ez] at hr ho
    exact zs_dcmp C K Z hr ho hd e2
  next  hd =>
    simp only [Bool.and_eq_true, Bool.or_eq_true, beq_iff_eq, decide_eq_true_eq, zNx, zTg] at hck
    obtain ⟨e1, e2⟩ := hck
    have ez : zexR i ls st h sc op = x_fcmp i ls st h zNX zBAD := by unfold zexR zex; rw [e1]; rfl
    rw [ez] at hr ho
    exact zs_fcmp C K Z hr ho hd e2
  next  hd =>
    simp only [Bool.and_eq_true, Bool.or_eq_true, beq_iff_eq, decide_eq_true_eq, zNx, zTg] at hck
    obtain ⟨e1, e2⟩ := hck
    have ez : zexR i ls st h sc op = x_fconst0 i ls st h zNX := by unfold zexR zex; rw [e1]; rfl
    rw [ez] at hr ho
    exact zs_fconst0 C K Z hr ho hd e2
  next k hd =>
    simp only [Bool.and_eq_true, Bool.or_eq_true, beq_iff_eq, decide_eq_true_eq, zNx, zTg] at hck
    obtain ⟨⟨e1, e2⟩, e3⟩ := hck
    have ez : zexR i ls st h sc op = x_dload i ls st h zNX zBAD op.2.2.1 := by unfold zexR zex; rw [e1]; rfl
    rw [ez] at hr ho
    rw [e2] at hr ho
    exact zs_dload C K Z hr ho hd e3
  next k hd =>
    simp only [Bool.and_eq_true, beq_iff_eq, decide_eq_true_eq, zNx] at hck
    obtain ⟨⟨⟨⟨⟨e1, e2⟩, e3⟩, e4⟩, e5⟩, e6⟩ := hck
    have ez : zexR i ls st h sc op = x_dstore i ls st h zNX zBAD op.2.2.1 := by unfold zexR zex; rw [e1]; rfl
    rw [ez] at hr ho
    rw [e2] at hr ho
    exact zs_dstore C K Z hr ho e3 e4 hd e6
  next => cases hck
/-- all steps of one frame, the calls' contracts at hand -/
theorem zframe (hsc : ∀ x, inR (sc.2 x)) (hsl : sc.1 < 2147483648) (hbd : h'.1 ≤ n0 + R.cells ∧ h'.2.1 ≤ s0 + R.slots) (C : zCx p s m args meth c R mi D cI cD bS sc hs A H0) (Ke : zKe p l e R s m args below meth c Q mi D cI cD bS A H0 n0 s0 hb ad0 r h') : ∀ n, (∀ k, k < n → zMet l sc k) → zG0 p l e R s m args below meth c Q mi D cI cD bS sc hs A H0 n0 s0 hb ad0 r h' n := by
  intro n
  induction n with
  | zero => intro _ i ls st h H locs cells slots lsC ad hr; cases hr
  | succ n ih => exact fun HM => zstep hsc hsl hbd (HM n (Nat.lt_succ_self n)) C (ih (fun k hk => HM k (Nat.lt_succ_of_lt hk))) Ke
end STEP
theorem zlg : ∀ {vs : List Value}, (∀ v ∈ vs, v.category = 1) → (lg_sl vs).length = vs.length ∧ ∀ k, lv_args k vs = (List.range vs.length).map (fun i => (k + i, vs.getD i .null))
  | [], _ => ⟨rfl, fun _ => rfl⟩
  | v :: vs, h => by
    obtain ⟨h1, h2⟩ := zlg (vs := vs) (fun w hw => h w (List.mem_cons_of_mem _ hw))
    have hv := h v List.mem_cons_self
    constructor
    · have : lg_sl (v :: vs) = .val v :: lg_sl vs := by simp [lg_sl, hv]
      rw [this, List.length_cons, List.length_cons, h1]
    · intro k
      unfold lv_args
      rw [if_neg (by rw [hv]; omega), h2, List.length_cons, List.range_succ_eq_map, List.map_cons, List.map_map]
      congr 1
      apply List.map_congr_left
      intro i _
      show (k + 1 + i, _) = (k + (i + 1), _)
      rw [show k + 1 + i = k + (i + 1) by omega]
      simp
set_option maxRecDepth 100000 in
theorem znames : (List.range 96).all (fun m => plainName (zMI m).1.cls && (decide (zN (zMI m).2.2.2.2.1 = (zMI m).1.cls) && (!((zMI m).2.2.2.2.2 == 2) || decide ((zMI m).1.name = "<init>")))) = true := by decide +kernel
theorem zplainN (m : Nat) (h : m < 96) : plainName (zMI m).1.cls = true := by
  have := List.all_eq_true.mp znames m (List.mem_range.mpr h)
  simp only [Bool.and_eq_true] at this
  exact this.1
theorem zownN (m : Nat) (h : m < 96) : zN (zMI m).2.2.2.2.1 = (zMI m).1.cls := by
  have := List.all_eq_true.mp znames m (List.mem_range.mpr h)
  simp only [Bool.and_eq_true, decide_eq_true_eq] at this
  exact this.2.1
theorem zinitN (m : Nat) (h : m < 96) (hk : (zMI m).2.2.2.2.2 = 2) : (zMI m).1.name = "<init>" := by
  have := List.all_eq_true.mp znames m (List.mem_range.mpr h)
  simp only [Bool.and_eq_true, decide_eq_true_eq, Bool.or_eq_true, Bool.not_eq_true', beq_eq_false_iff_ne] at this
  exact this.2.2.resolve_left (fun q => q hk)
theorem zmet {l : Launch} {sc : Nat × (Int → Int)} (hsc : ∀ x, inR (sc.2 x)) (hsl : sc.1 < 2147483648) : ∀ n, zMet l sc n := by
  intro n
  induction n using Nat.strongRecOn with
  | ind n ih =>
    intro hs m' hm' as h r h' hr hH hS hp hlen D cI cD bS ad sz
    have hw := m_in hm'
    have hcode : Cond.code (zMI m').1 (zMI m').2.1 (zMI m').2.2.1 (zMI m').2.2.2.1 ∈ zG := hw _ (List.mem_append_left _ List.mem_cons_self)
    have hok := run_ok hsc hsl n hs m' 0 _ [] h r h' hr hH (zen_ok hS hp) (fun v hv => by cases hv)
    refine Met.ofW (cc := (zMI m').2.1) (maxL := (zMI m').2.2.1) (ret := (zMI m').2.2.2.1) (zplainN m' hm') rfl ?_
    intro p e s m args below meth c s₁ B hml hv
    obtain ⟨rfl, hsz, hP, hK, hD0, hAO, hNw, hXs⟩ := hv
    subst hsz
    have hts : ∀ w ∈ zG, w.before (as.map (vC bS ad)).toArray s = true := fun w hw => atoms_spec (ws := zws m') B.pre w (List.mem_cons_of_mem _ hw)
    have hown : s.vm.findClass (zMI m').1.cls = some m.cls := findClass_of_methodNamed B.named
    have hlocks := B.notSynchronized
    have hD := hD0.self (sz := s.heap.size)
    have hC : zCx p s m (as.map (vC bS ad)).toArray meth c (zrm m' h h') m' D cI cD bS sc hs (va_A (cw cI cD bS ad h) s.heap.size) s.heap := by
      refine ⟨B.exec, B.bytes, hml, by rw [zownN m' hm']; exact hown, hts, hK, hAO, hNw, fun hk => ?_, Nat.le_refl _, Nat.le_refl _, fun q hq => Or.inr hq, hXs⟩
      rw [(name_of_methodNamed B.named B.method).1]
      exact zinitN m' hm' hk
    have hcat : ∀ v ∈ as.map (vC bS ad), v.category = 1 := by
      intro v hv
      obtain ⟨w, hw, rfl⟩ := List.mem_map.mp hv
      rw [vC_cat]
      have := hp w hw
      rcases w with z | (_ | k) | b | b | u
      · rfl
      · rfl
      · rfl
      · rfl
      · cases this
      · rfl
    obtain ⟨hlg, hla⟩ := zlg hcat
    have hle : (lg_sl (as.map (vC bS ad))).length ≤ (zMI m').2.2.1 := by rw [hlg, List.length_map]; exact hlen
    have hl := lv_entry (as.map (vC bS ad)) hle
    rw [lg_entry_eq]
    generalize (lg_sl (as.map (vC bS ad)) ++ List.replicate ((zMI m').2.2.1 - (lg_sl (as.map (vC bS ad))).length) Slot.unset).toArray = lsC at hl ⊢
    have hzl : (zen m' as).length = (zMI m').2.2.1 := by
      have hlen : as.length ≤ (zMI m').2.2.1 := hlen
      show (as.map some ++ List.replicate ((zMI m').2.2.1 - as.length) none).length = _
      rw [List.length_append, List.length_map, List.length_replicate]
      omega
    have hlR : lR bS ad (zMI m').2.2.1 (zen m' as) lsC := by
      refine ⟨hzl, hl.1, hl.2.1, fun q hq => ?_⟩
      obtain ⟨v, h1, h2⟩ := zlv_mem.mp hq
      refine hl.2.2 q ?_
      rw [hla 0, List.mem_map]
      unfold zen at h1
      by_cases hi : q.1 < as.length
      · refine ⟨q.1, List.mem_range.mpr (by rw [List.length_map]; exact hi), ?_⟩
        rw [List.getElem?_append_left (by rw [List.length_map]; exact hi), List.getElem?_map] at h1
        have h3 : as[q.1]? = some v := by
          cases hq1 : as[q.1]? with
          | none => rw [hq1] at h1; cases h1
          | some w => rw [hq1] at h1; cases h1; rfl
        rw [List.getD_eq_getElem?_getD, List.getElem?_map, h3, Nat.zero_add]
        exact Prod.ext rfl h2.symm
      · rw [List.getElem?_append_right (by rw [List.length_map]; omega)] at h1
        have := List.eq_of_mem_replicate (List.mem_of_getElem? h1)
        cases this
    have hpc0 : zpc m' 0 = 0 := by
      have h99 : (zfe m' 0).1 ≠ 99 := by
        intro q
        cases n with
        | zero => cases hr
        | succ n =>
          rw [zrun_s] at hr
          have : zexR 0 (zen m' as) [] h sc (zfe m' 0) = zBAD := by unfold zexR zex; rw [q]; rfl
          rw [this] at hr
          cases hr
      exact (ck_ok h99).2.2
    have hret := B.returns
    have Ke : zKe p l e (zrm m' h h') s m (as.map (vC bS ad)).toArray below meth c (MQ below (zQc D cI cD bS ad h s.heap.size r h') (as.map (vC bS ad)).toArray s (h'.1 - h.1) (h'.2.1 - h.2.1) (va_A (cw cI cD bS ad h) s.heap.size)) m' D cI cD bS (va_A (cw cI cD bS ad h) s.heap.size) s.heap h.1 h.2.1 h.1 ad r h' := by
      intro i' ad' H' locs' lsC' cells' slots' he hP' hD' hS' hn hs0 ha
      have ec : cells' = h'.1 - h.1 := by omega
      have es : slots' = h'.2.1 - h.2.1 := by omega
      subst ec; subst es
      have hq : ∀ t : State, t.heap = H' → s.WarmedH t.vm → zQc D cI cD bS ad h s.heap.size r h' (as.map (vC bS ad)).toArray s (.returned (r.map (vC bS ad'))) t := fun t ht _ => ⟨⟨ad', ha, rfl, by rw [ht]; exact hP', hD'⟩, hS'.F ht⟩
      rcases r with _ | z | q | b | b | u
      · exact W.vret B.exec B.bytes (hret.trans he.2) hq hS'.2.2 he.1
      · rcases he.2 with h1 | ⟨h1, h2⟩
        · exact W.iret B.exec B.bytes (hret.trans h1) hq hS'.2.2 he.1
        · refine W.zret B.exec B.bytes (hret.trans h1) ?_ hq hS'.2.2 he.1
          rcases h2 with h2 | h2 <;> subst h2 <;> decide
      · refine W.aret (v := vC bS ad' (.inr (.inl q))) B.exec B.bytes (rt := (zMI m').2.2.2.1.getD .int) ?_ ?_ ?_ hq hS'.2.2 he.1
        · rcases he.2 with ⟨a, h1⟩ | ⟨a, h1⟩ <;> rw [hret, h1] <;> rfl
        · rcases he.2 with ⟨a, h1⟩ | ⟨a, h1⟩ <;> rw [h1]
          · exact Or.inl ⟨a, rfl⟩
          · exact Or.inr ⟨a, rfl⟩
        · cases q with
          | none => exact Or.inl rfl
          | some q => exact Or.inr ⟨_, rfl⟩
      · exact W.fret B.exec B.bytes (hret.trans he.2) hq hS'.2.2 he.1
      · cases he
      · cases he
    have hfr := zframe hsc hsl (n0 := h.1) (s0 := h.2.1) (R := zrm m' h h') (h' := h') ⟨by show h'.1 ≤ h.1 + (h'.1 - h.1); omega, by show h'.2.1 ≤ h.2.1 + (h'.2.1 - h.2.1); omega⟩ hC Ke n (fun k hk => ih k hk)
    have hW := hfr 0 (zen m' as) [] h s.heap [] 0 0 lsC ad hr ⟨hH, zen_ok hS hp, fun v hv => (by cases hv), hP, hD, va_S.rf, hlR, Nat.add_zero _, Nat.add_zero _, fun _ _ => rfl, Nat.le_refl _⟩
    rw [hpc0] at hW
    exact hW
