/-! THE SMALL MACHINE'S STEPS AGAINST THE GREAT ONE'S -/
abbrev zNX : Nat → zL → List zV → zH → zP := fun a b c d => .inl (a, b, c, d)
abbrev zCL : Nat → List zV → List zV → zP := fun a b c => .inr (.inl (a, b, c))
abbrev zRT : Option zV → zP := fun r => .inr (.inr (.inl r))
abbrev zBAD : zP := .inr (.inr (.inr ()))
def zR1 (sc : Nat × (Int → Int)) (n m i : Nat) (ls : zL) (h : zH) (ρ : zP) : Option zR := zel (fun i' ls' st' h' => zrun sc n m i' ls' st' h') (fun m' as st' => (zrun sc n m' 0 (zen m' as) [] h).bind (fun r => zrun sc n m (i + 1) ls (r.1.toList ++ st') r.2)) (fun r => some (r, h)) none ρ
def zCx (p : Program) (s : State) (m : MethodId) (args : Array Value) (meth : Method) (c : Code) (R : Room) (mi : Nat) (D : va_G) (cI cD : ClassId) (bS : Nat) (sc : Nat × (Int → Int)) (hs : Bool) (A : Nat → Prop) (H0 : Heap) : Prop :=
  p.tables.exec = Jvm.exec ∧ c.code = (zMI mi).2.1 ∧ c.maxLocals = (zMI mi).2.2.1 ∧ s.vm.findClass (zN (zMI mi).2.2.2.2.1) = some m.cls ∧ (∀ w ∈ zG, w.before args s = true) ∧ va_K D vwCl [(cI, .int), (cD, .object RX0)] s ∧ va_AO RX0 s ∧ (∀ q ∈ ctab, q.2.2.1 = 2 → va_Nw (cpW q) s) ∧ ((zMI mi).2.2.2.2.2 = 2 → meth.name = "<init>") ∧ rmF.getD mi 0 ≤ R.frames ∧ rmL.getD mi 0 ≤ R.locals ∧ (∀ q, H0.size ≤ q → A q) ∧ (hs = true → va_X bS sc.1 (fun j => Int32.ofInt (sc.2 j)) s H0 ∧ bS < H0.size ∧ ¬ A bS)
def zSt (mi : Nat) (D : va_G) (cI cD : ClassId) (bS : Nat) (hs : Bool) (A : Nat → Prop) (H0 : Heap) (n0 s0 hb : Nat) (ad0 : Nat → Nat) (ls : zL) (st : List zV) (h : zH) (H : Heap) (locs : List Loc) (cells slots : Nat) (lsC : Array Slot) (ad : Nat → Nat) : Prop :=
  okH h ∧ okL hs h.1 (zds mi) ls ∧ okS hs h.1 st ∧ va_P D vwCl (cw cI cD bS ad h) H ∧ va_D A (cw cI cD bS ad h) ∧ va_S A H0 H locs ∧ lR bS ad (zMI mi).2.2.1 ls lsC ∧ n0 + cells = h.1 ∧ s0 + slots = h.2.1 ∧ (∀ k, k < hb → ad k = ad0 k) ∧ hb ≤ h.1
def zG0 (p : Program) (l : Launch) (e : Env) (R : Room) (s : State) (m : MethodId) (args : Array Value) (below : List Frame) (meth : Method) (c : Code) (Q : State → Prop) (mi : Nat) (D : va_G) (cI cD : ClassId) (bS : Nat) (sc : Nat × (Int → Int)) (hs : Bool) (A : Nat → Prop) (H0 : Heap) (n0 s0 hb : Nat) (ad0 : Nat → Nat) (r : Option zV) (h' : zH) (n : Nat) : Prop :=
  ∀ (i : Nat) (ls : zL) (st : List zV) (h : zH) (H : Heap) (locs : List Loc) (cells slots : Nat) (lsC : Array Slot) (ad : Nat → Nat), zrun sc n mi i ls st h = some (r, h') → zSt mi D cI cD bS hs A H0 n0 s0 hb ad0 ls st h H locs cells slots lsC ad → W p l e R s m args below meth c H locs cells slots Q (F0 m (zpc mi i) lsC (st.map (vC bS ad)))
section SIM
variable {p : Program} {l : Launch} {e : Env} {R : Room} {s : State} {m : MethodId} {args : Array Value} {below : List Frame} {meth : Method} {c : Code} {Q : State → Prop}
variable {mi : Nat} {D : va_G} {cI cD : ClassId} {bS : Nat} {sc : Nat × (Int → Int)} {hs : Bool} {A : Nat → Prop} {H0 : Heap} {n0 s0 hb : Nat} {ad0 : Nat → Nat} {r : Option zV} {h' : zH} {n : Nat}
variable {i : Nat} {ls : zL} {st : List zV} {h : zH} {H : Heap} {locs : List Loc} {cells slots : Nat} {lsC : Array Slot} {ad : Nat → Nat}
theorem zf (K : zG0 p l e R s m args below meth c Q mi D cI cD bS sc hs A H0 n0 s0 hb ad0 r h' n) {st0 : List zV} (Z : zSt mi D cI cD bS hs A H0 n0 s0 hb ad0 ls st0 h H locs cells slots lsC ad) {i' pc' : Nat} {st' : List zV} {stC : List Value} (hr : zrun sc n mi i' ls st' h = some (r, h')) (ho : okP hs (zds mi) ls h (.inl (i', ls, st', h))) (hpc : zpc mi i' = pc') (hst : st'.map (vC bS ad) = stC) : W p l e R s m args below meth c H locs cells slots Q (F0 m pc' lsC stC) := by
  obtain ⟨z1, z2, z3, z4, z5, z6, z7, z8, z9, z10, z11⟩ := Z
  subst hpc; subst hst
  exact K i' ls st' h H locs cells slots lsC ad hr ⟨ho.1, ho.2.1, ho.2.2.1, z4, z5, z6, z7, z8, z9, z10, z11⟩
theorem zfl (K : zG0 p l e R s m args below meth c Q mi D cI cD bS sc hs A H0 n0 s0 hb ad0 r h' n) {st0 : List zV} (Z : zSt mi D cI cD bS hs A H0 n0 s0 hb ad0 ls st0 h H locs cells slots lsC ad) {i' pc' : Nat} {ls' : zL} {lsC' : Array Slot} {st' : List zV} {stC : List Value} (hr : zrun sc n mi i' ls' st' h = some (r, h')) (ho : okP hs (zds mi) ls h (.inl (i', ls', st', h))) (hl : lR bS ad (zMI mi).2.2.1 ls' lsC') (hpc : zpc mi i' = pc') (hst : st'.map (vC bS ad) = stC) : W p l e R s m args below meth c H locs cells slots Q (F0 m pc' lsC' stC) := by
  obtain ⟨z1, z2, z3, z4, z5, z6, z7, z8, z9, z10, z11⟩ := Z
  subst hpc; subst hst
  exact K i' ls' st' h H locs cells slots lsC' ad hr ⟨ho.1, ho.2.1, ho.2.2.1, z4, z5, z6, hl, z8, z9, z10, z11⟩
theorem zfh (K : zG0 p l e R s m args below meth c Q mi D cI cD bS sc hs A H0 n0 s0 hb ad0 r h' n) {st0 : List zV} (Z : zSt mi D cI cD bS hs A H0 n0 s0 hb ad0 ls st0 h H locs cells slots lsC ad) {i' pc' k : Nat} {cc : zC} {H1 : Heap} {locs1 : List Loc} {st' : List zV} {stC : List Value} (hr : zrun sc n mi i' ls st' (zuH h k cc) = some (r, h')) (ho : okP hs (zds mi) ls h (.inl (i', ls, st', zuH h k cc))) (hk : k < h.1) (hP : va_P D vwCl ((cw cI cD bS ad h).set k (ad k, cE cI cD bS ad cc)) H1) (hD : va_D A ((cw cI cD bS ad h).set k (ad k, cE cI cD bS ad cc))) (hS : va_S A H0 H1 locs1) (hpc : zpc mi i' = pc') (hst : st'.map (vC bS ad) = stC) : W p l e R s m args below meth c H1 locs1 cells slots Q (F0 m pc' lsC stC) := by
  obtain ⟨z1, z2, z3, z4, z5, z6, z7, z8, z9, z10, z11⟩ := Z
  subst hpc; subst hst
  rw [cw_set hk] at hP hD
  exact K i' ls st' (zuH h k cc) H1 locs1 cells slots lsC ad hr ⟨ho.1, ho.2.1, ho.2.2.1, hP, hD, hS, z7, z8, z9, z10, z11⟩
theorem zfa (K : zG0 p l e R s m args below meth c Q mi D cI cD bS sc hs A H0 n0 s0 hb ad0 r h' n) {st0 : List zV} (Z : zSt mi D cI cD bS hs A H0 n0 s0 hb ad0 ls st0 h H locs cells slots lsC ad) {i' pc' sz q : Nat} {cc : zC} {ec : va_E} {H1 : Heap} {locs1 : List Loc} {st' : List zV} {stC : List Value} (hr : zrun sc n mi i' ls (.inr (.inl (some h.1)) :: st') (zaH h sz cc) = some (r, h')) (ho : okP hs (zds mi) ls h (.inl (i', ls, .inr (.inl (some h.1)) :: st', zaH h sz cc))) (hec : ∀ ad', cE cI cD bS ad' cc = ec) (hP : va_P D vwCl (cw cI cD bS ad h ++ [(q, ec)]) H1) (hD : va_D A (cw cI cD bS ad h ++ [(q, ec)])) (hS : va_S A H0 H1 locs1) (hpc : zpc mi i' = pc') (ho2 : okS hs h.1 st') (hst : .ref q :: st'.map (vC bS ad) = stC) : W p l e R s m args below meth c H1 locs1 (cells + 1) (slots + sz) Q (F0 m pc' lsC stC) := by
  obtain ⟨z1, z2, z3, z4, z5, z6, z7, z8, z9, z10, z11⟩ := Z
  subst hpc; subst hst
  have ha : ∀ k, k < h.1 → (fun k => if k = h.1 then q else ad k) k = ad k := fun k hk => if_neg (by omega)
  have hq : (fun k => if k = h.1 then q else ad k) h.1 = q := if_pos rfl
  generalize (fun k => if k = h.1 then q else ad k) = ad' at ha hq
  rw [← hec ad', cw_push (n := sz) z1 ha hq] at hP hD
  have hW := K i' ls (.inr (.inl (some h.1)) :: st') (zaH h sz cc) H1 locs1 (cells + 1) (slots + sz) lsC ad' hr ⟨ho.1, ho.2.1, ho.2.2.1, hP, hD, hS, lR_agree z7 z2 ha, by show n0 + (cells + 1) = h.1 + 1; omega, by show s0 + (slots + sz) = h.2.1 + sz; omega, fun k hk => by rw [ha k (by omega)]; exact z10 k hk, by show hb ≤ h.1 + 1; omega⟩
  have hm : (.inr (.inl (some h.1)) :: st' : List zV).map (vC bS ad') = .ref q :: st'.map (vC bS ad) := by
    rw [List.map_cons]
    congr 1
    · show Value.ref _ = _
      rw [hq]
    · exact List.map_congr_left (fun v hv => vC_agree (ho2 v hv) ha)
  rw [hm] at hW
  exact hW
theorem zs_const (C : zCx p s m args meth c R mi D cI cD bS sc hs A H0) (K : zG0 p l e R s m args below meth c Q mi D cI cD bS sc hs A H0 n0 s0 hb ad0 r h' n) (Z : zSt mi D cI cD bS hs A H0 n0 s0 hb ad0 ls st h H locs cells slots lsC ad) {z : Int} (hr : zR1 sc n mi i ls h (.inl (i + 1, ls, .inl z :: st, h)) = some (r, h')) (ho : okP hs (zds mi) ls h (.inl (i + 1, ls, .inl z :: st, h))) {d : Nat} (hw : W p l e R s m args below meth c H locs cells slots Q (F0 m (zpc mi i + d) lsC (.int (Int32.ofInt z) :: st.map (vC bS ad))) → W p l e R s m args below meth c H locs cells slots Q (F0 m (zpc mi i) lsC (st.map (vC bS ad)))) (hnx : zpc mi (i + 1) = zpc mi i + d) : W p l e R s m args below meth c H locs cells slots Q (F0 m (zpc mi i) lsC (st.map (vC bS ad))) :=
  hw (zf K Z hr ho hnx rfl)
theorem zs_iload_n (C : zCx p s m args meth c R mi D cI cD bS sc hs A H0) (K : zG0 p l e R s m args below meth c Q mi D cI cD bS sc hs A H0 n0 s0 hb ad0 r h' n) (Z : zSt mi D cI cD bS hs A H0 n0 s0 hb ad0 ls st h H locs cells slots lsC ad) {a : Nat} {k : Fin 4} (hk : a = k.val) (hr : zR1 sc n mi i ls h (x_iload i ls st h zNX zBAD a) = some (r, h')) (ho : okP hs (zds mi) ls h (x_iload i ls st h zNX zBAD a)) (hd : decode (zMI mi).2.1 (zpc mi i) = .ok (.iload_n k, 1)) (hnx : zpc mi (i + 1) = zpc mi i + 1) : W p l e R s m args below meth c H locs cells slots Q (F0 m (zpc mi i) lsC (st.map (vC bS ad))) := by
  unfold x_iload at hr ho
  split at hr
  next z hz =>
    try dsimp only at ho
    rw [hz] at ho
    have hl := lR_get Z.2.2.2.2.2.2.1 hz
    exact lv_iload_n C.1 C.2.1 hd hk.symm hl (zf K Z hr ho hnx rfl)
  next => cases hr
theorem zs_iload (C : zCx p s m args meth c R mi D cI cD bS sc hs A H0) (K : zG0 p l e R s m args below meth c Q mi D cI cD bS sc hs A H0 n0 s0 hb ad0 r h' n) (Z : zSt mi D cI cD bS hs A H0 n0 s0 hb ad0 ls st h H locs cells slots lsC ad) {a : Nat}  (hr : zR1 sc n mi i ls h (x_iload i ls st h zNX zBAD a) = some (r, h')) (ho : okP hs (zds mi) ls h (x_iload i ls st h zNX zBAD a)) (hd : decode (zMI mi).2.1 (zpc mi i) = .ok (.iload a, 2)) (hnx : zpc mi (i + 1) = zpc mi i + 2) : W p l e R s m args below meth c H locs cells slots Q (F0 m (zpc mi i) lsC (st.map (vC bS ad))) := by
  unfold x_iload at hr ho
  split at hr
  next z hz =>
    try dsimp only at ho
    rw [hz] at ho
    have hl := lR_get Z.2.2.2.2.2.2.1 hz
    exact lv_iload C.1 C.2.1 hd  hl (zf K Z hr ho hnx rfl)
  next => cases hr
theorem zs_aload_n (C : zCx p s m args meth c R mi D cI cD bS sc hs A H0) (K : zG0 p l e R s m args below meth c Q mi D cI cD bS sc hs A H0 n0 s0 hb ad0 r h' n) (Z : zSt mi D cI cD bS hs A H0 n0 s0 hb ad0 ls st h H locs cells slots lsC ad) {a : Nat} {k : Fin 4} (hk : a = k.val) (hr : zR1 sc n mi i ls h (x_aload i ls st h zNX zBAD a) = some (r, h')) (ho : okP hs (zds mi) ls h (x_aload i ls st h zNX zBAD a)) (hd : decode (zMI mi).2.1 (zpc mi i) = .ok (.aload_n k, 1)) (hnx : zpc mi (i + 1) = zpc mi i + 1) : W p l e R s m args below meth c H locs cells slots Q (F0 m (zpc mi i) lsC (st.map (vC bS ad))) := by
  unfold x_aload at hr ho
  split at hr
  next q hz =>
    try dsimp only at ho
    rw [hz] at ho
    have hl := lR_get Z.2.2.2.2.2.2.1 hz
    cases q with
    | none => exact lv_aload_nN C.1 C.2.1 hd hk.symm hl (zf K Z hr ho hnx rfl)
    | some q => exact lv_aload_n C.1 C.2.1 hd hk.symm hl (zf K Z hr ho hnx rfl)
  next hz =>
    try dsimp only at ho
    rw [hz] at ho
    have hl := lR_get Z.2.2.2.2.2.2.1 hz
    exact lv_aload_n C.1 C.2.1 hd hk.symm hl (zf K Z hr ho hnx rfl)
  next => cases hr
theorem zs_aload (C : zCx p s m args meth c R mi D cI cD bS sc hs A H0) (K : zG0 p l e R s m args below meth c Q mi D cI cD bS sc hs A H0 n0 s0 hb ad0 r h' n) (Z : zSt mi D cI cD bS hs A H0 n0 s0 hb ad0 ls st h H locs cells slots lsC ad) {a : Nat}  (hr : zR1 sc n mi i ls h (x_aload i ls st h zNX zBAD a) = some (r, h')) (ho : okP hs (zds mi) ls h (x_aload i ls st h zNX zBAD a)) (hd : decode (zMI mi).2.1 (zpc mi i) = .ok (.aload a, 2)) (hnx : zpc mi (i + 1) = zpc mi i + 2) : W p l e R s m args below meth c H locs cells slots Q (F0 m (zpc mi i) lsC (st.map (vC bS ad))) := by
  unfold x_aload at hr ho
  split at hr
  next q hz =>
    try dsimp only at ho
    rw [hz] at ho
    have hl := lR_get Z.2.2.2.2.2.2.1 hz
    cases q with
    | none => exact lv_aloadN C.1 C.2.1 hd  hl (zf K Z hr ho hnx rfl)
    | some q => exact lv_aload C.1 C.2.1 hd  hl (zf K Z hr ho hnx rfl)
  next hz =>
    try dsimp only at ho
    rw [hz] at ho
    have hl := lR_get Z.2.2.2.2.2.2.1 hz
    exact lv_aload C.1 C.2.1 hd  hl (zf K Z hr ho hnx rfl)
  next => cases hr
theorem zfil {a : Nat} (hL : okL hs h.1 (zds mi) ls) (hds : (zds mi).all (fun d => d + 1 != a) = true) : ∀ q ∈ zlv bS ad ls, q.1 ≠ a → (!(q.1 == a) && !(q.1 + 1 == a && q.2.category == 2)) = true := by
  intro q hq hne
  obtain ⟨v, h1, h2⟩ := zlv_mem.mp hq
  have hh := (hL _ _ h1).2
  rw [h2, vC_cat]
  simp only [Bool.and_eq_true, Bool.not_eq_true', beq_eq_false_iff_ne, Bool.and_eq_false_iff]
  refine ⟨hne, ?_⟩
  by_cases hd : dbl v = true
  · left
    have := List.all_eq_true.mp hds _ (hh hd)
    simpa using this
  · right
    rw [if_neg hd]
    decide
theorem zs_istore_n (C : zCx p s m args meth c R mi D cI cD bS sc hs A H0) (K : zG0 p l e R s m args below meth c Q mi D cI cD bS sc hs A H0 n0 s0 hb ad0 r h' n) (Z : zSt mi D cI cD bS hs A H0 n0 s0 hb ad0 ls st h H locs cells slots lsC ad) {a : Nat} {k : Fin 4} (hk : a = k.val) (hr : zR1 sc n mi i ls h (x_istore i ls st h zNX zBAD a) = some (r, h')) (ho : okP hs (zds mi) ls h (x_istore i ls st h zNX zBAD a)) (ha : a < (zMI mi).2.2.1) (hds : (zds mi).all (fun d => d + 1 != a) = true) (hd : decode (zMI mi).2.1 (zpc mi i) = .ok (.istore_n k, 1)) (hnx : zpc mi (i + 1) = zpc mi i + 1) : W p l e R s m args below meth c H locs cells slots Q (F0 m (zpc mi i) lsC (st.map (vC bS ad))) := by
  unfold x_istore at hr ho
  split at hr
  next z st' =>
    try dsimp only at ho
    have hL := Z.2.2.2.2.2.2.1
    exact lv_istore_n C.1 C.2.1 hd hk.symm hL.2 ha rfl (fun lsC' hl => zfl K Z hr ho (lR_set hL rfl hl (zfil Z.2.1 hds)) hnx rfl)
  next => cases hr
theorem zs_istore (C : zCx p s m args meth c R mi D cI cD bS sc hs A H0) (K : zG0 p l e R s m args below meth c Q mi D cI cD bS sc hs A H0 n0 s0 hb ad0 r h' n) (Z : zSt mi D cI cD bS hs A H0 n0 s0 hb ad0 ls st h H locs cells slots lsC ad) {a : Nat}  (hr : zR1 sc n mi i ls h (x_istore i ls st h zNX zBAD a) = some (r, h')) (ho : okP hs (zds mi) ls h (x_istore i ls st h zNX zBAD a)) (ha : a < (zMI mi).2.2.1) (hds : (zds mi).all (fun d => d + 1 != a) = true) (hd : decode (zMI mi).2.1 (zpc mi i) = .ok (.istore a, 2)) (hnx : zpc mi (i + 1) = zpc mi i + 2) : W p l e R s m args below meth c H locs cells slots Q (F0 m (zpc mi i) lsC (st.map (vC bS ad))) := by
  unfold x_istore at hr ho
  split at hr
  next z st' =>
    try dsimp only at ho
    have hL := Z.2.2.2.2.2.2.1
    exact lv_istore C.1 C.2.1 hd  hL.2 ha rfl (fun lsC' hl => zfl K Z hr ho (lR_set hL rfl hl (zfil Z.2.1 hds)) hnx rfl)
  next => cases hr
theorem zs_astore_n (C : zCx p s m args meth c R mi D cI cD bS sc hs A H0) (K : zG0 p l e R s m args below meth c Q mi D cI cD bS sc hs A H0 n0 s0 hb ad0 r h' n) (Z : zSt mi D cI cD bS hs A H0 n0 s0 hb ad0 ls st h H locs cells slots lsC ad) {a : Nat} {k : Fin 4} (hk : a = k.val) (hr : zR1 sc n mi i ls h (x_astore i ls st h zNX zBAD a) = some (r, h')) (ho : okP hs (zds mi) ls h (x_astore i ls st h zNX zBAD a)) (ha : a < (zMI mi).2.2.1) (hds : (zds mi).all (fun d => d + 1 != a) = true) (hd : decode (zMI mi).2.1 (zpc mi i) = .ok (.astore_n k, 1)) (hnx : zpc mi (i + 1) = zpc mi i + 1) : W p l e R s m args below meth c H locs cells slots Q (F0 m (zpc mi i) lsC (st.map (vC bS ad))) := by
  unfold x_astore at hr ho
  split at hr
  next q st' =>
    try dsimp only at ho
    have hL := Z.2.2.2.2.2.2.1
    cases q with
    | none => exact lv_astore_nN C.1 C.2.1 hd hk.symm hL.2 ha rfl (fun lsC' hl => zfl K Z hr ho (lR_set hL rfl hl (zfil Z.2.1 hds)) hnx rfl)
    | some q => exact lv_astore_n C.1 C.2.1 hd hk.symm hL.2 ha rfl (fun lsC' hl => zfl K Z hr ho (lR_set hL rfl hl (zfil Z.2.1 hds)) hnx rfl)
  next => cases hr
theorem zs_astore (C : zCx p s m args meth c R mi D cI cD bS sc hs A H0) (K : zG0 p l e R s m args below meth c Q mi D cI cD bS sc hs A H0 n0 s0 hb ad0 r h' n) (Z : zSt mi D cI cD bS hs A H0 n0 s0 hb ad0 ls st h H locs cells slots lsC ad) {a : Nat}  (hr : zR1 sc n mi i ls h (x_astore i ls st h zNX zBAD a) = some (r, h')) (ho : okP hs (zds mi) ls h (x_astore i ls st h zNX zBAD a)) (ha : a < (zMI mi).2.2.1) (hds : (zds mi).all (fun d => d + 1 != a) = true) (hd : decode (zMI mi).2.1 (zpc mi i) = .ok (.astore a, 2)) (hnx : zpc mi (i + 1) = zpc mi i + 2) : W p l e R s m args below meth c H locs cells slots Q (F0 m (zpc mi i) lsC (st.map (vC bS ad))) := by
  unfold x_astore at hr ho
  split at hr
  next q st' =>
    try dsimp only at ho
    have hL := Z.2.2.2.2.2.2.1
    cases q with
    | none => exact lv_astoreN C.1 C.2.1 hd  hL.2 ha rfl (fun lsC' hl => zfl K Z hr ho (lR_set hL rfl hl (zfil Z.2.1 hds)) hnx rfl)
    | some q => exact lv_astore C.1 C.2.1 hd  hL.2 ha rfl (fun lsC' hl => zfl K Z hr ho (lR_set hL rfl hl (zfil Z.2.1 hds)) hnx rfl)
  next => cases hr
theorem zs_iinc (C : zCx p s m args meth c R mi D cI cD bS sc hs A H0) (K : zG0 p l e R s m args below meth c Q mi D cI cD bS sc hs A H0 n0 s0 hb ad0 r h' n) (Z : zSt mi D cI cD bS hs A H0 n0 s0 hb ad0 ls st h H locs cells slots lsC ad) {a : Nat} {z : Int} (hr : zR1 sc n mi i ls h (x_iinc i ls st h zNX zBAD a z) = some (r, h')) (ho : okP hs (zds mi) ls h (x_iinc i ls st h zNX zBAD a z)) (ha : a < (zMI mi).2.2.1) (hds : (zds mi).all (fun d => d + 1 != a) = true) (hd : decode (zMI mi).2.1 (zpc mi i) = .ok (.iinc a z, 3)) (hnx : zpc mi (i + 1) = zpc mi i + 3) : W p l e R s m args below meth c H locs cells slots Q (F0 m (zpc mi i) lsC (st.map (vC bS ad))) := by
  unfold x_iinc at hr ho
  split at hr
  next x hz =>
    try dsimp only at ho
    rw [hz] at ho
    have hL := Z.2.2.2.2.2.2.1
    obtain ⟨k, hk⟩ := List.getElem?_of_mem (zlv_mem.mpr ⟨_, hz, rfl⟩ : (a, vC bS ad (.inl x)) ∈ zlv bS ad ls)
    exact lv_iinc C.1 C.2.1 hd hL.2 hk rfl ha rfl (fun lsC' hl => zfl K Z hr ho (lR_set hL (by show Value.int _ = Value.int _; rw [zi_add]) hl (zfil Z.2.1 hds)) hnx rfl)
  next => cases hr
theorem zs_dload (C : zCx p s m args meth c R mi D cI cD bS sc hs A H0) (K : zG0 p l e R s m args below meth c Q mi D cI cD bS sc hs A H0 n0 s0 hb ad0 r h' n) (Z : zSt mi D cI cD bS hs A H0 n0 s0 hb ad0 ls st h H locs cells slots lsC ad) {a : Nat} (hr : zR1 sc n mi i ls h (x_dload i ls st h zNX zBAD a) = some (r, h')) (ho : okP hs (zds mi) ls h (x_dload i ls st h zNX zBAD a)) (hd : decode (zMI mi).2.1 (zpc mi i) = .ok (.dload a, 2)) (hnx : zpc mi (i + 1) = zpc mi i + 2) : W p l e R s m args below meth c H locs cells slots Q (F0 m (zpc mi i) lsC (st.map (vC bS ad))) := by
  unfold x_dload at hr ho
  split at hr
  next b hz =>
    try dsimp only at ho
    rw [hz] at ho
    exact lv_dload C.1 C.2.1 hd (lR_get Z.2.2.2.2.2.2.1 hz) (zf K Z hr ho hnx rfl)
  next => cases hr
theorem zs_dstore (C : zCx p s m args meth c R mi D cI cD bS sc hs A H0) (K : zG0 p l e R s m args below meth c Q mi D cI cD bS sc hs A H0 n0 s0 hb ad0 r h' n) (Z : zSt mi D cI cD bS hs A H0 n0 s0 hb ad0 ls st h H locs cells slots lsC ad) {a : Nat} (hr : zR1 sc n mi i ls h (x_dstore i ls st h zNX zBAD a) = some (r, h')) (ho : okP hs (zds mi) ls h (x_dstore i ls st h zNX zBAD a)) (ha : a + 1 < (zMI mi).2.2.1) (hds : (zds mi).all (fun d => d + 1 != a && d != a + 1) = true) (hd : decode (zMI mi).2.1 (zpc mi i) = .ok (.dstore a, 2)) (hnx : zpc mi (i + 1) = zpc mi i + 2) : W p l e R s m args below meth c H locs cells slots Q (F0 m (zpc mi i) lsC (st.map (vC bS ad))) := by
  unfold x_dstore at hr ho
  split at hr
  next b st' =>
    try dsimp only at ho
    have hL := Z.2.2.2.2.2.2.1
    refine lv_dstore C.1 C.2.1 hd hL.2 ha rfl (fun lsC' hl => zfl K Z hr ho ?_ hnx rfl)
    refine ⟨by rw [List.length_set, List.length_set]; exact hL.1, hl.1, hl.2.1, fun q hq => ?_⟩
    obtain ⟨w, h1, h2⟩ := zlv_mem.mp hq
    rw [List.getElem?_set] at h1
    by_cases hi : a + 1 = q.1
    · rw [if_pos hi] at h1
      split at h1 <;> cases h1
    · rw [if_neg hi, List.getElem?_set] at h1
      by_cases hj : a = q.1
      · rw [if_pos hj] at h1
        split at h1
        · cases h1
          exact hl.2.2 q (List.mem_cons.mpr (Or.inl (by rw [hj]; exact Prod.ext rfl h2)))
        · cases h1
      · rw [if_neg hj] at h1
        refine hl.2.2 q (List.mem_cons_of_mem _ (List.mem_filter.mpr ⟨zlv_mem.mpr ⟨w, h1, h2⟩, ?_⟩))
        have hh := (Z.2.1 _ _ h1).2
        rw [h2, vC_cat]
        simp only [Bool.and_eq_true, Bool.not_eq_true', beq_eq_false_iff_ne, Bool.and_eq_false_iff]
        refine ⟨fun z => hj z.symm, fun z => hi z.symm, ?_⟩
        by_cases hdb : dbl w = true
        · left
          have := List.all_eq_true.mp hds _ (hh hdb)
          simp only [Bool.and_eq_true, bne_iff_ne] at this
          exact this.1
        · right
          rw [if_neg hdb]
          decide
  next => cases hr
theorem zs_iadd (C : zCx p s m args meth c R mi D cI cD bS sc hs A H0) (K : zG0 p l e R s m args below meth c Q mi D cI cD bS sc hs A H0 n0 s0 hb ad0 r h' n) (Z : zSt mi D cI cD bS hs A H0 n0 s0 hb ad0 ls st h H locs cells slots lsC ad) (hr : zR1 sc n mi i ls h (x_bin i ls st h zNX zBAD (fun x y => zwr (x + y))) = some (r, h')) (ho : okP hs (zds mi) ls h (x_bin i ls st h zNX zBAD (fun x y => zwr (x + y)))) (hd : decode (zMI mi).2.1 (zpc mi i) = .ok (.iadd, 1)) (hnx : zpc mi (i + 1) = zpc mi i + 1) : W p l e R s m args below meth c H locs cells slots Q (F0 m (zpc mi i) lsC (st.map (vC bS ad))) := by
  unfold x_bin at hr ho
  split at hr
  next y x st' => exact lv_iadd C.1 C.2.1 hd (zf K Z hr ho hnx (congrArg (fun z => Value.int z :: st'.map (vC bS ad)) (zi_add _ _)))
  next => cases hr
theorem zs_isub (C : zCx p s m args meth c R mi D cI cD bS sc hs A H0) (K : zG0 p l e R s m args below meth c Q mi D cI cD bS sc hs A H0 n0 s0 hb ad0 r h' n) (Z : zSt mi D cI cD bS hs A H0 n0 s0 hb ad0 ls st h H locs cells slots lsC ad) (hr : zR1 sc n mi i ls h (x_bin i ls st h zNX zBAD (fun x y => zwr (x - y))) = some (r, h')) (ho : okP hs (zds mi) ls h (x_bin i ls st h zNX zBAD (fun x y => zwr (x - y)))) (hd : decode (zMI mi).2.1 (zpc mi i) = .ok (.isub, 1)) (hnx : zpc mi (i + 1) = zpc mi i + 1) : W p l e R s m args below meth c H locs cells slots Q (F0 m (zpc mi i) lsC (st.map (vC bS ad))) := by
  unfold x_bin at hr ho
  split at hr
  next y x st' => exact lv_isub C.1 C.2.1 hd (zf K Z hr ho hnx (congrArg (fun z => Value.int z :: st'.map (vC bS ad)) (zi_sub _ _)))
  next => cases hr
theorem zs_imul (C : zCx p s m args meth c R mi D cI cD bS sc hs A H0) (K : zG0 p l e R s m args below meth c Q mi D cI cD bS sc hs A H0 n0 s0 hb ad0 r h' n) (Z : zSt mi D cI cD bS hs A H0 n0 s0 hb ad0 ls st h H locs cells slots lsC ad) (hr : zR1 sc n mi i ls h (x_bin i ls st h zNX zBAD (fun x y => zwr (x * y))) = some (r, h')) (ho : okP hs (zds mi) ls h (x_bin i ls st h zNX zBAD (fun x y => zwr (x * y)))) (hd : decode (zMI mi).2.1 (zpc mi i) = .ok (.imul, 1)) (hnx : zpc mi (i + 1) = zpc mi i + 1) : W p l e R s m args below meth c H locs cells slots Q (F0 m (zpc mi i) lsC (st.map (vC bS ad))) := by
  unfold x_bin at hr ho
  split at hr
  next y x st' => exact lv_imul C.1 C.2.1 hd (zf K Z hr ho hnx (congrArg (fun z => Value.int z :: st'.map (vC bS ad)) (zi_mul _ _)))
  next => cases hr
theorem zs_iand (C : zCx p s m args meth c R mi D cI cD bS sc hs A H0) (K : zG0 p l e R s m args below meth c Q mi D cI cD bS sc hs A H0 n0 s0 hb ad0 r h' n) (Z : zSt mi D cI cD bS hs A H0 n0 s0 hb ad0 ls st h H locs cells slots lsC ad) (hr : zR1 sc n mi i ls h (x_bin i ls st h zNX zBAD (fun x y => (Int32.ofInt x &&& Int32.ofInt y).toInt)) = some (r, h')) (ho : okP hs (zds mi) ls h (x_bin i ls st h zNX zBAD (fun x y => (Int32.ofInt x &&& Int32.ofInt y).toInt))) (hd : decode (zMI mi).2.1 (zpc mi i) = .ok (.iand, 1)) (hnx : zpc mi (i + 1) = zpc mi i + 1) : W p l e R s m args below meth c H locs cells slots Q (F0 m (zpc mi i) lsC (st.map (vC bS ad))) := by
  unfold x_bin at hr ho
  split at hr
  next y x st' => exact lv_iand C.1 C.2.1 hd (zf K Z hr ho hnx (congrArg (fun z => Value.int z :: st'.map (vC bS ad)) (zi_of _)))
  next => cases hr
theorem zs_ior (C : zCx p s m args meth c R mi D cI cD bS sc hs A H0) (K : zG0 p l e R s m args below meth c Q mi D cI cD bS sc hs A H0 n0 s0 hb ad0 r h' n) (Z : zSt mi D cI cD bS hs A H0 n0 s0 hb ad0 ls st h H locs cells slots lsC ad) (hr : zR1 sc n mi i ls h (x_bin i ls st h zNX zBAD (fun x y => (Int32.ofInt x ||| Int32.ofInt y).toInt)) = some (r, h')) (ho : okP hs (zds mi) ls h (x_bin i ls st h zNX zBAD (fun x y => (Int32.ofInt x ||| Int32.ofInt y).toInt))) (hd : decode (zMI mi).2.1 (zpc mi i) = .ok (.ior, 1)) (hnx : zpc mi (i + 1) = zpc mi i + 1) : W p l e R s m args below meth c H locs cells slots Q (F0 m (zpc mi i) lsC (st.map (vC bS ad))) := by
  unfold x_bin at hr ho
  split at hr
  next y x st' => exact lv_ior C.1 C.2.1 hd (zf K Z hr ho hnx (congrArg (fun z => Value.int z :: st'.map (vC bS ad)) (zi_of _)))
  next => cases hr
theorem zs_ishl (C : zCx p s m args meth c R mi D cI cD bS sc hs A H0) (K : zG0 p l e R s m args below meth c Q mi D cI cD bS sc hs A H0 n0 s0 hb ad0 r h' n) (Z : zSt mi D cI cD bS hs A H0 n0 s0 hb ad0 ls st h H locs cells slots lsC ad) (hr : zR1 sc n mi i ls h (x_bin i ls st h zNX zBAD (fun x y => (Int32.ofInt x <<< (Int32.ofInt y &&& 31)).toInt)) = some (r, h')) (ho : okP hs (zds mi) ls h (x_bin i ls st h zNX zBAD (fun x y => (Int32.ofInt x <<< (Int32.ofInt y &&& 31)).toInt))) (hd : decode (zMI mi).2.1 (zpc mi i) = .ok (.ishl, 1)) (hnx : zpc mi (i + 1) = zpc mi i + 1) : W p l e R s m args below meth c H locs cells slots Q (F0 m (zpc mi i) lsC (st.map (vC bS ad))) := by
  unfold x_bin at hr ho
  split at hr
  next y x st' => exact lv_ishl C.1 C.2.1 hd (zf K Z hr ho hnx (congrArg (fun z => Value.int z :: st'.map (vC bS ad)) (zi_of _)))
  next => cases hr
theorem zs_ishr (C : zCx p s m args meth c R mi D cI cD bS sc hs A H0) (K : zG0 p l e R s m args below meth c Q mi D cI cD bS sc hs A H0 n0 s0 hb ad0 r h' n) (Z : zSt mi D cI cD bS hs A H0 n0 s0 hb ad0 ls st h H locs cells slots lsC ad) (hr : zR1 sc n mi i ls h (x_bin i ls st h zNX zBAD (fun x y => (Int32.ofInt x >>> (Int32.ofInt y &&& 31)).toInt)) = some (r, h')) (ho : okP hs (zds mi) ls h (x_bin i ls st h zNX zBAD (fun x y => (Int32.ofInt x >>> (Int32.ofInt y &&& 31)).toInt))) (hd : decode (zMI mi).2.1 (zpc mi i) = .ok (.ishr, 1)) (hnx : zpc mi (i + 1) = zpc mi i + 1) : W p l e R s m args below meth c H locs cells slots Q (F0 m (zpc mi i) lsC (st.map (vC bS ad))) := by
  unfold x_bin at hr ho
  split at hr
  next y x st' => exact lv_ishr C.1 C.2.1 hd (zf K Z hr ho hnx (congrArg (fun z => Value.int z :: st'.map (vC bS ad)) (zi_of _)))
  next => cases hr
theorem zs_idiv (C : zCx p s m args meth c R mi D cI cD bS sc hs A H0) (K : zG0 p l e R s m args below meth c Q mi D cI cD bS sc hs A H0 n0 s0 hb ad0 r h' n) (Z : zSt mi D cI cD bS hs A H0 n0 s0 hb ad0 ls st h H locs cells slots lsC ad) (hr : zR1 sc n mi i ls h (x_binC i ls st h zNX zBAD (fun x y => 0 ≤ x ∧ 0 < y) (fun x y => x / y)) = some (r, h')) (ho : okP hs (zds mi) ls h (x_binC i ls st h zNX zBAD (fun x y => 0 ≤ x ∧ 0 < y) (fun x y => x / y))) (hd : decode (zMI mi).2.1 (zpc mi i) = .ok (.idiv, 1)) (hnx : zpc mi (i + 1) = zpc mi i + 1) : W p l e R s m args below meth c H locs cells slots Q (F0 m (zpc mi i) lsC (st.map (vC bS ad))) := by
  unfold x_binC at hr ho
  split at hr
  next y x st' =>
    try dsimp only at ho
    split at hr
    next q =>
      try dsimp only at ho
      rw [if_pos q] at ho
      have hS := Z.2.2.1
      have hy : inR y := (okS_tl hS).1
      have hx : inR x := (okS_tl (okS_tl hS).2).1
      exact lv_idiv C.1 C.2.1 hd (zi_ne0 hy q.2) (zf K Z hr ho hnx (congrArg (fun z => Value.int z :: st'.map (vC bS ad)) (zi_div hx hy q.1 q.2)))
    next => cases hr
  next => cases hr
theorem zs_irem (C : zCx p s m args meth c R mi D cI cD bS sc hs A H0) (K : zG0 p l e R s m args below meth c Q mi D cI cD bS sc hs A H0 n0 s0 hb ad0 r h' n) (Z : zSt mi D cI cD bS hs A H0 n0 s0 hb ad0 ls st h H locs cells slots lsC ad) (hr : zR1 sc n mi i ls h (x_binC i ls st h zNX zBAD (fun x y => 0 ≤ x ∧ 0 < y) (fun x y => x % y)) = some (r, h')) (ho : okP hs (zds mi) ls h (x_binC i ls st h zNX zBAD (fun x y => 0 ≤ x ∧ 0 < y) (fun x y => x % y))) (hd : decode (zMI mi).2.1 (zpc mi i) = .ok (.irem, 1)) (hnx : zpc mi (i + 1) = zpc mi i + 1) : W p l e R s m args below meth c H locs cells slots Q (F0 m (zpc mi i) lsC (st.map (vC bS ad))) := by
  unfold x_binC at hr ho
  split at hr
  next y x st' =>
    try dsimp only at ho
    split at hr
    next q =>
      try dsimp only at ho
      rw [if_pos q] at ho
      have hS := Z.2.2.1
      have hy : inR y := (okS_tl hS).1
      have hx : inR x := (okS_tl (okS_tl hS).2).1
      exact lv_irem C.1 C.2.1 hd (zi_ne0 hy q.2) (zf K Z hr ho hnx (congrArg (fun z => Value.int z :: st'.map (vC bS ad)) (zi_mod hx hy q.1 q.2)))
    next => cases hr
  next => cases hr
theorem zs_if_eq (C : zCx p s m args meth c R mi D cI cD bS sc hs A H0) (K : zG0 p l e R s m args below meth c Q mi D cI cD bS sc hs A H0 n0 s0 hb ad0 r h' n) (Z : zSt mi D cI cD bS hs A H0 n0 s0 hb ad0 ls st h H locs cells slots lsC ad) {t : Nat} {off : Int} (hr : zR1 sc n mi i ls h (x_if i ls st h zNX zBAD (fun x => x = 0) t) = some (r, h')) (ho : okP hs (zds mi) ls h (x_if i ls st h zNX zBAD (fun x => x = 0) t)) (hd : decode (zMI mi).2.1 (zpc mi i) = .ok (.ifCond .eq off, 3)) (ht : (zpc mi i : Int) + off = (zpc mi t : Int)) (hnx : zpc mi (i + 1) = zpc mi i + 3) : W p l e R s m args below meth c H locs cells slots Q (F0 m (zpc mi i) lsC (st.map (vC bS ad))) := by
  unfold x_if at hr ho
  split at hr
  next x st' =>
    try dsimp only at ho
    have hx : inR x := (okS_tl Z.2.2.1).1
    have iff := zi_eq hx inR_0
    refine lv_if_eq C.1 C.2.1 hd ht (fun q => ?_) (fun q => ?_)
    · rw [if_pos (iff.mp q)] at hr ho
      exact zf K Z hr ho rfl rfl
    · skip
      rw [if_neg (fun z => q (iff.mpr z))] at hr ho
      exact zf K Z hr ho hnx rfl
  next => cases hr
theorem zs_icmp_eq (C : zCx p s m args meth c R mi D cI cD bS sc hs A H0) (K : zG0 p l e R s m args below meth c Q mi D cI cD bS sc hs A H0 n0 s0 hb ad0 r h' n) (Z : zSt mi D cI cD bS hs A H0 n0 s0 hb ad0 ls st h H locs cells slots lsC ad) {t : Nat} {off : Int} (hr : zR1 sc n mi i ls h (x_icmp i ls st h zNX zBAD (fun x y => x = y) t) = some (r, h')) (ho : okP hs (zds mi) ls h (x_icmp i ls st h zNX zBAD (fun x y => x = y) t)) (hd : decode (zMI mi).2.1 (zpc mi i) = .ok (.if_icmp .eq off, 3)) (ht : (zpc mi i : Int) + off = (zpc mi t : Int)) (hnx : zpc mi (i + 1) = zpc mi i + 3) : W p l e R s m args below meth c H locs cells slots Q (F0 m (zpc mi i) lsC (st.map (vC bS ad))) := by
  unfold x_icmp at hr ho
  split at hr
  next y x st' =>
    try dsimp only at ho
    have hy : inR y := (okS_tl Z.2.2.1).1
    have hx : inR x := (okS_tl (okS_tl Z.2.2.1).2).1
    have iff := zi_eq hx hy
    refine lv_icmp_eq C.1 C.2.1 hd ht (fun q => ?_) (fun q => ?_)
    · rw [if_pos (iff.mp q)] at hr ho
      exact zf K Z hr ho rfl rfl
    · skip
      rw [if_neg (fun z => q (iff.mpr z))] at hr ho
      exact zf K Z hr ho hnx rfl
  next => cases hr
theorem zs_if_ne (C : zCx p s m args meth c R mi D cI cD bS sc hs A H0) (K : zG0 p l e R s m args below meth c Q mi D cI cD bS sc hs A H0 n0 s0 hb ad0 r h' n) (Z : zSt mi D cI cD bS hs A H0 n0 s0 hb ad0 ls st h H locs cells slots lsC ad) {t : Nat} {off : Int} (hr : zR1 sc n mi i ls h (x_if i ls st h zNX zBAD (fun x => x ≠ 0) t) = some (r, h')) (ho : okP hs (zds mi) ls h (x_if i ls st h zNX zBAD (fun x => x ≠ 0) t)) (hd : decode (zMI mi).2.1 (zpc mi i) = .ok (.ifCond .ne off, 3)) (ht : (zpc mi i : Int) + off = (zpc mi t : Int)) (hnx : zpc mi (i + 1) = zpc mi i + 3) : W p l e R s m args below meth c H locs cells slots Q (F0 m (zpc mi i) lsC (st.map (vC bS ad))) := by
  unfold x_if at hr ho
  split at hr
  next x st' =>
    try dsimp only at ho
    have hx : inR x := (okS_tl Z.2.2.1).1
    have iff := not_congr (zi_eq hx inR_0)
    refine lv_if_ne C.1 C.2.1 hd ht (fun q => ?_) (fun q => ?_)
    · rw [if_pos (iff.mp q)] at hr ho
      exact zf K Z hr ho rfl rfl
    · have q : ¬ ¬ Int32.ofInt x = 0 := fun z => z q
      rw [if_neg (fun z => q (iff.mpr z))] at hr ho
      exact zf K Z hr ho hnx rfl
  next => cases hr
theorem zs_icmp_ne (C : zCx p s m args meth c R mi D cI cD bS sc hs A H0) (K : zG0 p l e R s m args below meth c Q mi D cI cD bS sc hs A H0 n0 s0 hb ad0 r h' n) (Z : zSt mi D cI cD bS hs A H0 n0 s0 hb ad0 ls st h H locs cells slots lsC ad) {t : Nat} {off : Int} (hr : zR1 sc n mi i ls h (x_icmp i ls st h zNX zBAD (fun x y => x ≠ y) t) = some (r, h')) (ho : okP hs (zds mi) ls h (x_icmp i ls st h zNX zBAD (fun x y => x ≠ y) t)) (hd : decode (zMI mi).2.1 (zpc mi i) = .ok (.if_icmp .ne off, 3)) (ht : (zpc mi i : Int) + off = (zpc mi t : Int)) (hnx : zpc mi (i + 1) = zpc mi i + 3) : W p l e R s m args below meth c H locs cells slots Q (F0 m (zpc mi i) lsC (st.map (vC bS ad))) := by
  unfold x_icmp at hr ho
  split at hr
  next y x st' =>
    try dsimp only at ho
    have hy : inR y := (okS_tl Z.2.2.1).1
    have hx : inR x := (okS_tl (okS_tl Z.2.2.1).2).1
    have iff := not_congr (zi_eq hx hy)
    refine lv_icmp_ne C.1 C.2.1 hd ht (fun q => ?_) (fun q => ?_)
    · rw [if_pos (iff.mp q)] at hr ho
      exact zf K Z hr ho rfl rfl
    · have q : ¬ ¬ Int32.ofInt x = Int32.ofInt y := fun z => z q
      rw [if_neg (fun z => q (iff.mpr z))] at hr ho
      exact zf K Z hr ho hnx rfl
  next => cases hr
theorem zs_if_lt (C : zCx p s m args meth c R mi D cI cD bS sc hs A H0) (K : zG0 p l e R s m args below meth c Q mi D cI cD bS sc hs A H0 n0 s0 hb ad0 r h' n) (Z : zSt mi D cI cD bS hs A H0 n0 s0 hb ad0 ls st h H locs cells slots lsC ad) {t : Nat} {off : Int} (hr : zR1 sc n mi i ls h (x_if i ls st h zNX zBAD (fun x => x < 0) t) = some (r, h')) (ho : okP hs (zds mi) ls h (x_if i ls st h zNX zBAD (fun x => x < 0) t)) (hd : decode (zMI mi).2.1 (zpc mi i) = .ok (.ifCond .lt off, 3)) (ht : (zpc mi i : Int) + off = (zpc mi t : Int)) (hnx : zpc mi (i + 1) = zpc mi i + 3) : W p l e R s m args below meth c H locs cells slots Q (F0 m (zpc mi i) lsC (st.map (vC bS ad))) := by
  unfold x_if at hr ho
  split at hr
  next x st' =>
    try dsimp only at ho
    have hx : inR x := (okS_tl Z.2.2.1).1
    have iff := zi_lt hx inR_0
    refine lv_if_lt C.1 C.2.1 hd ht (fun q => ?_) (fun q => ?_)
    · rw [if_pos (iff.mp q)] at hr ho
      exact zf K Z hr ho rfl rfl
    · skip
      rw [if_neg (fun z => q (iff.mpr z))] at hr ho
      exact zf K Z hr ho hnx rfl
  next => cases hr
theorem zs_icmp_lt (C : zCx p s m args meth c R mi D cI cD bS sc hs A H0) (K : zG0 p l e R s m args below meth c Q mi D cI cD bS sc hs A H0 n0 s0 hb ad0 r h' n) (Z : zSt mi D cI cD bS hs A H0 n0 s0 hb ad0 ls st h H locs cells slots lsC ad) {t : Nat} {off : Int} (hr : zR1 sc n mi i ls h (x_icmp i ls st h zNX zBAD (fun x y => x < y) t) = some (r, h')) (ho : okP hs (zds mi) ls h (x_icmp i ls st h zNX zBAD (fun x y => x < y) t)) (hd : decode (zMI mi).2.1 (zpc mi i) = .ok (.if_icmp .lt off, 3)) (ht : (zpc mi i : Int) + off = (zpc mi t : Int)) (hnx : zpc mi (i + 1) = zpc mi i + 3) : W p l e R s m args below meth c H locs cells slots Q (F0 m (zpc mi i) lsC (st.map (vC bS ad))) := by
  unfold x_icmp at hr ho
  split at hr
  next y x st' =>
    try dsimp only at ho
    have hy : inR y := (okS_tl Z.2.2.1).1
    have hx : inR x := (okS_tl (okS_tl Z.2.2.1).2).1
    have iff := zi_lt hx hy
    refine lv_icmp_lt C.1 C.2.1 hd ht (fun q => ?_) (fun q => ?_)
    · rw [if_pos (iff.mp q)] at hr ho
      exact zf K Z hr ho rfl rfl
    · skip
      rw [if_neg (fun z => q (iff.mpr z))] at hr ho
      exact zf K Z hr ho hnx rfl
  next => cases hr
theorem zs_if_ge (C : zCx p s m args meth c R mi D cI cD bS sc hs A H0) (K : zG0 p l e R s m args below meth c Q mi D cI cD bS sc hs A H0 n0 s0 hb ad0 r h' n) (Z : zSt mi D cI cD bS hs A H0 n0 s0 hb ad0 ls st h H locs cells slots lsC ad) {t : Nat} {off : Int} (hr : zR1 sc n mi i ls h (x_if i ls st h zNX zBAD (fun x => 0 ≤ x) t) = some (r, h')) (ho : okP hs (zds mi) ls h (x_if i ls st h zNX zBAD (fun x => 0 ≤ x) t)) (hd : decode (zMI mi).2.1 (zpc mi i) = .ok (.ifCond .ge off, 3)) (ht : (zpc mi i : Int) + off = (zpc mi t : Int)) (hnx : zpc mi (i + 1) = zpc mi i + 3) : W p l e R s m args below meth c H locs cells slots Q (F0 m (zpc mi i) lsC (st.map (vC bS ad))) := by
  unfold x_if at hr ho
  split at hr
  next x st' =>
    try dsimp only at ho
    have hx : inR x := (okS_tl Z.2.2.1).1
    have iff := zi_le inR_0 hx
    refine lv_if_ge C.1 C.2.1 hd ht (fun q => ?_) (fun q => ?_)
    · rw [if_pos (iff.mp q)] at hr ho
      exact zf K Z hr ho rfl rfl
    · skip
      rw [if_neg (fun z => q (iff.mpr z))] at hr ho
      exact zf K Z hr ho hnx rfl
  next => cases hr
theorem zs_icmp_ge (C : zCx p s m args meth c R mi D cI cD bS sc hs A H0) (K : zG0 p l e R s m args below meth c Q mi D cI cD bS sc hs A H0 n0 s0 hb ad0 r h' n) (Z : zSt mi D cI cD bS hs A H0 n0 s0 hb ad0 ls st h H locs cells slots lsC ad) {t : Nat} {off : Int} (hr : zR1 sc n mi i ls h (x_icmp i ls st h zNX zBAD (fun x y => y ≤ x) t) = some (r, h')) (ho : okP hs (zds mi) ls h (x_icmp i ls st h zNX zBAD (fun x y => y ≤ x) t)) (hd : decode (zMI mi).2.1 (zpc mi i) = .ok (.if_icmp .ge off, 3)) (ht : (zpc mi i : Int) + off = (zpc mi t : Int)) (hnx : zpc mi (i + 1) = zpc mi i + 3) : W p l e R s m args below meth c H locs cells slots Q (F0 m (zpc mi i) lsC (st.map (vC bS ad))) := by
  unfold x_icmp at hr ho
  split at hr
  next y x st' =>
    try dsimp only at ho
    have hy : inR y := (okS_tl Z.2.2.1).1
    have hx : inR x := (okS_tl (okS_tl Z.2.2.1).2).1
    have iff := zi_le hy hx
    refine lv_icmp_ge C.1 C.2.1 hd ht (fun q => ?_) (fun q => ?_)
    · rw [if_pos (iff.mp q)] at hr ho
      exact zf K Z hr ho rfl rfl
    · skip
      rw [if_neg (fun z => q (iff.mpr z))] at hr ho
      exact zf K Z hr ho hnx rfl
  next => cases hr
theorem zs_if_gt (C : zCx p s m args meth c R mi D cI cD bS sc hs A H0) (K : zG0 p l e R s m args below meth c Q mi D cI cD bS sc hs A H0 n0 s0 hb ad0 r h' n) (Z : zSt mi D cI cD bS hs A H0 n0 s0 hb ad0 ls st h H locs cells slots lsC ad) {t : Nat} {off : Int} (hr : zR1 sc n mi i ls h (x_if i ls st h zNX zBAD (fun x => 0 < x) t) = some (r, h')) (ho : okP hs (zds mi) ls h (x_if i ls st h zNX zBAD (fun x => 0 < x) t)) (hd : decode (zMI mi).2.1 (zpc mi i) = .ok (.ifCond .gt off, 3)) (ht : (zpc mi i : Int) + off = (zpc mi t : Int)) (hnx : zpc mi (i + 1) = zpc mi i + 3) : W p l e R s m args below meth c H locs cells slots Q (F0 m (zpc mi i) lsC (st.map (vC bS ad))) := by
  unfold x_if at hr ho
  split at hr
  next x st' =>
    try dsimp only at ho
    have hx : inR x := (okS_tl Z.2.2.1).1
    have iff := zi_lt inR_0 hx
    refine lv_if_gt C.1 C.2.1 hd ht (fun q => ?_) (fun q => ?_)
    · rw [if_pos (iff.mp q)] at hr ho
      exact zf K Z hr ho rfl rfl
    · skip
      rw [if_neg (fun z => q (iff.mpr z))] at hr ho
      exact zf K Z hr ho hnx rfl
  next => cases hr
theorem zs_icmp_gt (C : zCx p s m args meth c R mi D cI cD bS sc hs A H0) (K : zG0 p l e R s m args below meth c Q mi D cI cD bS sc hs A H0 n0 s0 hb ad0 r h' n) (Z : zSt mi D cI cD bS hs A H0 n0 s0 hb ad0 ls st h H locs cells slots lsC ad) {t : Nat} {off : Int} (hr : zR1 sc n mi i ls h (x_icmp i ls st h zNX zBAD (fun x y => y < x) t) = some (r, h')) (ho : okP hs (zds mi) ls h (x_icmp i ls st h zNX zBAD (fun x y => y < x) t)) (hd : decode (zMI mi).2.1 (zpc mi i) = .ok (.if_icmp .gt off, 3)) (ht : (zpc mi i : Int) + off = (zpc mi t : Int)) (hnx : zpc mi (i + 1) = zpc mi i + 3) : W p l e R s m args below meth c H locs cells slots Q (F0 m (zpc mi i) lsC (st.map (vC bS ad))) := by
  unfold x_icmp at hr ho
  split at hr
  next y x st' =>
    try dsimp only at ho
    have hy : inR y := (okS_tl Z.2.2.1).1
    have hx : inR x := (okS_tl (okS_tl Z.2.2.1).2).1
    have iff := zi_lt hy hx
    refine lv_icmp_gt C.1 C.2.1 hd ht (fun q => ?_) (fun q => ?_)
    · rw [if_pos (iff.mp q)] at hr ho
      exact zf K Z hr ho rfl rfl
    · skip
      rw [if_neg (fun z => q (iff.mpr z))] at hr ho
      exact zf K Z hr ho hnx rfl
  next => cases hr
theorem zs_if_le (C : zCx p s m args meth c R mi D cI cD bS sc hs A H0) (K : zG0 p l e R s m args below meth c Q mi D cI cD bS sc hs A H0 n0 s0 hb ad0 r h' n) (Z : zSt mi D cI cD bS hs A H0 n0 s0 hb ad0 ls st h H locs cells slots lsC ad) {t : Nat} {off : Int} (hr : zR1 sc n mi i ls h (x_if i ls st h zNX zBAD (fun x => x ≤ 0) t) = some (r, h')) (ho : okP hs (zds mi) ls h (x_if i ls st h zNX zBAD (fun x => x ≤ 0) t)) (hd : decode (zMI mi).2.1 (zpc mi i) = .ok (.ifCond .le off, 3)) (ht : (zpc mi i : Int) + off = (zpc mi t : Int)) (hnx : zpc mi (i + 1) = zpc mi i + 3) : W p l e R s m args below meth c H locs cells slots Q (F0 m (zpc mi i) lsC (st.map (vC bS ad))) := by
  unfold x_if at hr ho
  split at hr
  next x st' =>
    try dsimp only at ho
    have hx : inR x := (okS_tl Z.2.2.1).1
    have iff := zi_le hx inR_0
    refine lv_if_le C.1 C.2.1 hd ht (fun q => ?_) (fun q => ?_)
    · rw [if_pos (iff.mp q)] at hr ho
      exact zf K Z hr ho rfl rfl
    · skip
      rw [if_neg (fun z => q (iff.mpr z))] at hr ho
      exact zf K Z hr ho hnx rfl
  next => cases hr
theorem zs_icmp_le (C : zCx p s m args meth c R mi D cI cD bS sc hs A H0) (K : zG0 p l e R s m args below meth c Q mi D cI cD bS sc hs A H0 n0 s0 hb ad0 r h' n) (Z : zSt mi D cI cD bS hs A H0 n0 s0 hb ad0 ls st h H locs cells slots lsC ad) {t : Nat} {off : Int} (hr : zR1 sc n mi i ls h (x_icmp i ls st h zNX zBAD (fun x y => x ≤ y) t) = some (r, h')) (ho : okP hs (zds mi) ls h (x_icmp i ls st h zNX zBAD (fun x y => x ≤ y) t)) (hd : decode (zMI mi).2.1 (zpc mi i) = .ok (.if_icmp .le off, 3)) (ht : (zpc mi i : Int) + off = (zpc mi t : Int)) (hnx : zpc mi (i + 1) = zpc mi i + 3) : W p l e R s m args below meth c H locs cells slots Q (F0 m (zpc mi i) lsC (st.map (vC bS ad))) := by
  unfold x_icmp at hr ho
  split at hr
  next y x st' =>
    try dsimp only at ho
    have hy : inR y := (okS_tl Z.2.2.1).1
    have hx : inR x := (okS_tl (okS_tl Z.2.2.1).2).1
    have iff := zi_le hx hy
    refine lv_icmp_le C.1 C.2.1 hd ht (fun q => ?_) (fun q => ?_)
    · rw [if_pos (iff.mp q)] at hr ho
      exact zf K Z hr ho rfl rfl
    · skip
      rw [if_neg (fun z => q (iff.mpr z))] at hr ho
      exact zf K Z hr ho hnx rfl
  next => cases hr
theorem zcat : ∀ {st : List zV}, st.all zplain = true → ((st.map (vC bS ad)).map fun v => v.category).sum = st.length
  | [], _ => rfl
  | v :: st, h => by
    simp only [List.all_cons, Bool.and_eq_true] at h
    rw [List.map_cons, List.map_cons, List.sum_cons, zcat h.2, vC_cat, List.length_cons]
    have : dbl v = false := by
      rcases v with z | (_ | k) | b | b | u
      · rfl
      · rfl
      · rfl
      · cases h.1
      · cases h.1
      · rfl
    rw [this]
    simp [Nat.add_comm]
theorem zcat2 : ∀ {st : List zV}, ((st.map (vC bS ad)).map fun v => v.category).sum ≤ 2 * st.length
  | [] => Nat.le_refl 0
  | v :: st => by
    have := zcat2 (st := st)
    rw [List.map_cons, List.map_cons, List.sum_cons, vC_cat, List.length_cons]
    split <;> omega
theorem zs_mmax (C : zCx p s m args meth c R mi D cI cD bS sc hs A H0) (K : zG0 p l e R s m args below meth c Q mi D cI cD bS sc hs A H0 n0 s0 hb ad0 r h' n) (Z : zSt mi D cI cD bS hs A H0 n0 s0 hb ad0 ls st h H locs cells slots lsC ad) {ix : Nat} (hr : zR1 sc n mi i ls h (x_binS i ls st h zNX zBAD (fun x y => if x < y then y else x)) = some (r, h')) (ho : okP hs (zds mi) ls h (x_binS i ls st h zNX zBAD (fun x y => if x < y then y else x))) (hbd : cells ≤ R.cells ∧ slots ≤ R.slots) (hcp : ((zMI mi).2.2.2.2.1, ix, 6, (0 : Int), 0) ∈ ctab) (hrm : 1 ≤ rmF.getD mi 0 ∧ 21 ≤ rmL.getD mi 0) (hd : decode (zMI mi).2.1 (zpc mi i) = .ok (.invokestatic ix, 3)) (hnx : zpc mi (i + 1) = zpc mi i + 3) : W p l e R s m args below meth c H locs cells slots Q (F0 m (zpc mi i) lsC (st.map (vC bS ad))) := by
  unfold x_binS at hr ho
  split at hr
  next y x st' =>
    try dsimp only at ho
    split at hr
    next hst4 =>
      try dsimp only at ho
      rw [if_pos hst4] at ho
      have hy : inR y := (okS_tl Z.2.2.1).1
      have hx : inR x := (okS_tl (okS_tl Z.2.2.1).2).1
      have hl := C.2.2.2.2.1 _ (cp_in hcp (by intro q; dsimp only at q; omega))
      have hR := C.2.2.2.2.2.2.2.2.2
      have hw := fun (k : Nat) (w : Cond) (hk : oW[k]? = some w) => C.2.2.2.2.1 _ (o_in _ (List.mem_of_getElem? hk))
      refine va_mmax C.1 C.2.1 (by rw [C.2.2.1]; exact Z.2.2.2.2.2.2.1.2.1.symm) C.2.2.2.1 hl (hw 3 _ rfl) (hw 7 _ rfl) (hw 4 _ rfl) (Nat.le_trans hrm.1 hR.1) ?_ hbd.1 hbd.2 hd ?_
      · have h1 := zcat2 (bS := bS) (ad := ad) (st := st')
        have h2 := hR.2.1
        omega
      · refine zf K Z hr ho hnx ?_
        show Value.int (Int32.ofInt (if _ then _ else _)) :: _ = _
        by_cases hq : x < y
        · rw [if_pos hq, if_pos ((zi_lt hx hy).mpr hq)]
        · rw [if_neg hq, if_neg (fun z => hq ((zi_lt hx hy).mp z))]
    next => cases hr
  next => cases hr
theorem zs_mmin (C : zCx p s m args meth c R mi D cI cD bS sc hs A H0) (K : zG0 p l e R s m args below meth c Q mi D cI cD bS sc hs A H0 n0 s0 hb ad0 r h' n) (Z : zSt mi D cI cD bS hs A H0 n0 s0 hb ad0 ls st h H locs cells slots lsC ad) {ix : Nat} (hr : zR1 sc n mi i ls h (x_binS i ls st h zNX zBAD (fun x y => if y < x then y else x)) = some (r, h')) (ho : okP hs (zds mi) ls h (x_binS i ls st h zNX zBAD (fun x y => if y < x then y else x))) (hbd : cells ≤ R.cells ∧ slots ≤ R.slots) (hcp : ((zMI mi).2.2.2.2.1, ix, 7, (0 : Int), 0) ∈ ctab) (hrm : 1 ≤ rmF.getD mi 0 ∧ 21 ≤ rmL.getD mi 0) (hd : decode (zMI mi).2.1 (zpc mi i) = .ok (.invokestatic ix, 3)) (hnx : zpc mi (i + 1) = zpc mi i + 3) : W p l e R s m args below meth c H locs cells slots Q (F0 m (zpc mi i) lsC (st.map (vC bS ad))) := by
  unfold x_binS at hr ho
  split at hr
  next y x st' =>
    try dsimp only at ho
    split at hr
    next hst4 =>
      try dsimp only at ho
      rw [if_pos hst4] at ho
      have hy : inR y := (okS_tl Z.2.2.1).1
      have hx : inR x := (okS_tl (okS_tl Z.2.2.1).2).1
      have hl := C.2.2.2.2.1 _ (cp_in hcp (by intro q; dsimp only at q; omega))
      have hR := C.2.2.2.2.2.2.2.2.2
      have hw := fun (k : Nat) (w : Cond) (hk : oW[k]? = some w) => C.2.2.2.2.1 _ (o_in _ (List.mem_of_getElem? hk))
      refine va_mmin C.1 C.2.1 (by rw [C.2.2.1]; exact Z.2.2.2.2.2.2.1.2.1.symm) C.2.2.2.1 hl (hw 5 _ rfl) (hw 7 _ rfl) (hw 6 _ rfl) (Nat.le_trans hrm.1 hR.1) ?_ hbd.1 hbd.2 hd ?_
      · have h1 := zcat2 (bS := bS) (ad := ad) (st := st')
        have h2 := hR.2.1
        omega
      · refine zf K Z hr ho hnx ?_
        show Value.int (Int32.ofInt (if _ then _ else _)) :: _ = _
        by_cases hq : y < x
        · rw [if_pos hq, if_pos ((zi_lt hy hx).mpr hq)]
        · rw [if_neg hq, if_neg (fun z => hq ((zi_lt hy hx).mp z))]
    next => cases hr
  next => cases hr
theorem zs_goto (C : zCx p s m args meth c R mi D cI cD bS sc hs A H0) (K : zG0 p l e R s m args below meth c Q mi D cI cD bS sc hs A H0 n0 s0 hb ad0 r h' n) (Z : zSt mi D cI cD bS hs A H0 n0 s0 hb ad0 ls st h H locs cells slots lsC ad) {t : Nat} {off : Int} (hr : zR1 sc n mi i ls h (.inl (t, ls, st, h)) = some (r, h')) (ho : okP hs (zds mi) ls h (.inl (t, ls, st, h))) (hd : decode (zMI mi).2.1 (zpc mi i) = .ok (.goto off, 3)) (ht : (zpc mi i : Int) + off = (zpc mi t : Int)) : W p l e R s m args below meth c H locs cells slots Q (F0 m (zpc mi i) lsC (st.map (vC bS ad))) :=
  lv_goto C.1 C.2.1 hd ht (zf K Z hr ho rfl rfl)
theorem zs_ifnull (C : zCx p s m args meth c R mi D cI cD bS sc hs A H0) (K : zG0 p l e R s m args below meth c Q mi D cI cD bS sc hs A H0 n0 s0 hb ad0 r h' n) (Z : zSt mi D cI cD bS hs A H0 n0 s0 hb ad0 ls st h H locs cells slots lsC ad) {t : Nat} {off : Int} (hr : zR1 sc n mi i ls h (x_ifnull i ls st h zNX zBAD t) = some (r, h')) (ho : okP hs (zds mi) ls h (x_ifnull i ls st h zNX zBAD t)) (hd : decode (zMI mi).2.1 (zpc mi i) = .ok (.ifnull off, 3)) (ht : (zpc mi i : Int) + off = (zpc mi t : Int)) (hnx : zpc mi (i + 1) = zpc mi i + 3) : W p l e R s m args below meth c H locs cells slots Q (F0 m (zpc mi i) lsC (st.map (vC bS ad))) := by
  unfold x_ifnull at hr ho
  split at hr
  next st' => exact lv_ifnullN C.1 C.2.1 hd ht (zf K Z hr ho rfl rfl)
  next q st' => exact lv_ifnull C.1 C.2.1 hd (zf K Z hr ho hnx rfl)
  next => cases hr
theorem zs_ifnonnull (C : zCx p s m args meth c R mi D cI cD bS sc hs A H0) (K : zG0 p l e R s m args below meth c Q mi D cI cD bS sc hs A H0 n0 s0 hb ad0 r h' n) (Z : zSt mi D cI cD bS hs A H0 n0 s0 hb ad0 ls st h H locs cells slots lsC ad) {t : Nat} {off : Int} (hr : zR1 sc n mi i ls h (x_ifnonnull i ls st h zNX zBAD t) = some (r, h')) (ho : okP hs (zds mi) ls h (x_ifnonnull i ls st h zNX zBAD t)) (hd : decode (zMI mi).2.1 (zpc mi i) = .ok (.ifnonnull off, 3)) (ht : (zpc mi i : Int) + off = (zpc mi t : Int)) (hnx : zpc mi (i + 1) = zpc mi i + 3) : W p l e R s m args below meth c H locs cells slots Q (F0 m (zpc mi i) lsC (st.map (vC bS ad))) := by
  unfold x_ifnonnull at hr ho
  split at hr
  next st' => exact lv_ifnonnullN C.1 C.2.1 hd (zf K Z hr ho hnx rfl)
  next q st' => exact lv_ifnonnull C.1 C.2.1 hd ht (zf K Z hr ho rfl rfl)
  next => cases hr
theorem zs_dup (C : zCx p s m args meth c R mi D cI cD bS sc hs A H0) (K : zG0 p l e R s m args below meth c Q mi D cI cD bS sc hs A H0 n0 s0 hb ad0 r h' n) (Z : zSt mi D cI cD bS hs A H0 n0 s0 hb ad0 ls st h H locs cells slots lsC ad) (hr : zR1 sc n mi i ls h (x_dup i ls st h zNX zBAD) = some (r, h')) (ho : okP hs (zds mi) ls h (x_dup i ls st h zNX zBAD)) (hd : decode (zMI mi).2.1 (zpc mi i) = .ok (.dup, 1)) (hnx : zpc mi (i + 1) = zpc mi i + 1) : W p l e R s m args below meth c H locs cells slots Q (F0 m (zpc mi i) lsC (st.map (vC bS ad))) := by
  unfold x_dup at hr ho
  split at hr
  next z st' => exact lv_dup C.1 C.2.1 hd rfl (zf K Z hr ho hnx rfl)
  next q st' => exact lv_dup C.1 C.2.1 hd (by cases q <;> rfl) (zf K Z hr ho hnx rfl)
  next => cases hr
theorem zs_pop (C : zCx p s m args meth c R mi D cI cD bS sc hs A H0) (K : zG0 p l e R s m args below meth c Q mi D cI cD bS sc hs A H0 n0 s0 hb ad0 r h' n) (Z : zSt mi D cI cD bS hs A H0 n0 s0 hb ad0 ls st h H locs cells slots lsC ad) (hr : zR1 sc n mi i ls h (x_pop i ls st h zNX zBAD) = some (r, h')) (ho : okP hs (zds mi) ls h (x_pop i ls st h zNX zBAD)) (hd : decode (zMI mi).2.1 (zpc mi i) = .ok (.pop, 1)) (hnx : zpc mi (i + 1) = zpc mi i + 1) : W p l e R s m args below meth c H locs cells slots Q (F0 m (zpc mi i) lsC (st.map (vC bS ad))) := by
  unfold x_pop at hr ho
  split at hr
  next z st' => exact lv_pop C.1 C.2.1 hd rfl (zf K Z hr ho hnx rfl)
  next q st' => exact lv_pop C.1 C.2.1 hd (by cases q <;> rfl) (zf K Z hr ho hnx rfl)
  next => cases hr
theorem zs_dup2 (C : zCx p s m args meth c R mi D cI cD bS sc hs A H0) (K : zG0 p l e R s m args below meth c Q mi D cI cD bS sc hs A H0 n0 s0 hb ad0 r h' n) (Z : zSt mi D cI cD bS hs A H0 n0 s0 hb ad0 ls st h H locs cells slots lsC ad) (hr : zR1 sc n mi i ls h (x_dup2 i ls st h zNX zBAD) = some (r, h')) (ho : okP hs (zds mi) ls h (x_dup2 i ls st h zNX zBAD)) (hd : decode (zMI mi).2.1 (zpc mi i) = .ok (.dup2, 1)) (hnx : zpc mi (i + 1) = zpc mi i + 1) : W p l e R s m args below meth c H locs cells slots Q (F0 m (zpc mi i) lsC (st.map (vC bS ad))) := by
  unfold x_dup2 at hr ho
  split at hr
  next z q st' => exact lv_dup2_11 C.1 C.2.1 hd rfl (by cases q <;> rfl) (zf K Z hr ho hnx rfl)
  next => cases hr
theorem zs_i2f (C : zCx p s m args meth c R mi D cI cD bS sc hs A H0) (K : zG0 p l e R s m args below meth c Q mi D cI cD bS sc hs A H0 n0 s0 hb ad0 r h' n) (Z : zSt mi D cI cD bS hs A H0 n0 s0 hb ad0 ls st h H locs cells slots lsC ad) (hr : zR1 sc n mi i ls h (x_i2f i ls st h zNX zBAD) = some (r, h')) (ho : okP hs (zds mi) ls h (x_i2f i ls st h zNX zBAD)) (hd : decode (zMI mi).2.1 (zpc mi i) = .ok (.i2f, 1)) (hnx : zpc mi (i + 1) = zpc mi i + 1) : W p l e R s m args below meth c H locs cells slots Q (F0 m (zpc mi i) lsC (st.map (vC bS ad))) := by
  unfold x_i2f at hr ho
  split at hr
  next z st' => exact lv_i2f C.1 C.2.1 hd (zf K Z hr ho hnx rfl)
  next => cases hr
theorem zs_fdiv (C : zCx p s m args meth c R mi D cI cD bS sc hs A H0) (K : zG0 p l e R s m args below meth c Q mi D cI cD bS sc hs A H0 n0 s0 hb ad0 r h' n) (Z : zSt mi D cI cD bS hs A H0 n0 s0 hb ad0 ls st h H locs cells slots lsC ad) (hr : zR1 sc n mi i ls h (x_fdiv i ls st h zNX zBAD) = some (r, h')) (ho : okP hs (zds mi) ls h (x_fdiv i ls st h zNX zBAD)) (hd : decode (zMI mi).2.1 (zpc mi i) = .ok (.fdiv, 1)) (hnx : zpc mi (i + 1) = zpc mi i + 1) : W p l e R s m args below meth c H locs cells slots Q (F0 m (zpc mi i) lsC (st.map (vC bS ad))) := by
  unfold x_fdiv at hr ho
  split at hr
  next b a st' =>
    try dsimp only at ho
    split at hr
    next q =>
      try dsimp only at ho
      rw [if_pos q] at ho
      exact lv_fdiv C.1 C.2.1 hd (show _ &&& _ ≤ _ from of_decide_eq_true q) (zf K Z hr ho hnx rfl)
    next => cases hr
  next => cases hr
theorem zs_f2d (C : zCx p s m args meth c R mi D cI cD bS sc hs A H0) (K : zG0 p l e R s m args below meth c Q mi D cI cD bS sc hs A H0 n0 s0 hb ad0 r h' n) (Z : zSt mi D cI cD bS hs A H0 n0 s0 hb ad0 ls st h H locs cells slots lsC ad) (hr : zR1 sc n mi i ls h (x_f2d i ls st h zNX zBAD) = some (r, h')) (ho : okP hs (zds mi) ls h (x_f2d i ls st h zNX zBAD)) (hd : decode (zMI mi).2.1 (zpc mi i) = .ok (.f2d, 1)) (hnx : zpc mi (i + 1) = zpc mi i + 1) : W p l e R s m args below meth c H locs cells slots Q (F0 m (zpc mi i) lsC (st.map (vC bS ad))) := by
  unfold x_f2d at hr ho
  split at hr
  next a st' =>
    try dsimp only at ho
    split at hr
    next q =>
      try dsimp only at ho
      rw [if_pos q] at ho
      exact lv_f2d C.1 C.2.1 hd (show _ &&& _ ≤ _ from of_decide_eq_true q) (zf K Z hr ho hnx rfl)
    next => cases hr
  next => cases hr
theorem zs_dcmp (C : zCx p s m args meth c R mi D cI cD bS sc hs A H0) (K : zG0 p l e R s m args below meth c Q mi D cI cD bS sc hs A H0 n0 s0 hb ad0 r h' n) (Z : zSt mi D cI cD bS hs A H0 n0 s0 hb ad0 ls st h H locs cells slots lsC ad) (hr : zR1 sc n mi i ls h (x_dcmp i ls st h zNX zBAD) = some (r, h')) (ho : okP hs (zds mi) ls h (x_dcmp i ls st h zNX zBAD)) (hd : decode (zMI mi).2.1 (zpc mi i) = .ok (.dcmp .l, 1)) (hnx : zpc mi (i + 1) = zpc mi i + 1) : W p l e R s m args below meth c H locs cells slots Q (F0 m (zpc mi i) lsC (st.map (vC bS ad))) := by
  unfold x_dcmp at hr ho
  split at hr
  next b a st' => exact lv_dcmp C.1 C.2.1 hd (zf K Z hr ho hnx (congrArg (fun z => Value.int z :: st'.map (vC bS ad)) (zi_of _)))
  next => cases hr
theorem zs_fcmp (C : zCx p s m args meth c R mi D cI cD bS sc hs A H0) (K : zG0 p l e R s m args below meth c Q mi D cI cD bS sc hs A H0 n0 s0 hb ad0 r h' n) (Z : zSt mi D cI cD bS hs A H0 n0 s0 hb ad0 ls st h H locs cells slots lsC ad) (hr : zR1 sc n mi i ls h (x_fcmp i ls st h zNX zBAD) = some (r, h')) (ho : okP hs (zds mi) ls h (x_fcmp i ls st h zNX zBAD)) (hd : decode (zMI mi).2.1 (zpc mi i) = .ok (.fcmp .l, 1)) (hnx : zpc mi (i + 1) = zpc mi i + 1) : W p l e R s m args below meth c H locs cells slots Q (F0 m (zpc mi i) lsC (st.map (vC bS ad))) := by
  unfold x_fcmp at hr ho
  split at hr
  next b a st' => exact lv_fcmp C.1 C.2.1 hd (zf K Z hr ho hnx (congrArg (fun z => Value.int z :: st'.map (vC bS ad)) (zi_of _)))
  next => cases hr
theorem zs_fconst0 (C : zCx p s m args meth c R mi D cI cD bS sc hs A H0) (K : zG0 p l e R s m args below meth c Q mi D cI cD bS sc hs A H0 n0 s0 hb ad0 r h' n) (Z : zSt mi D cI cD bS hs A H0 n0 s0 hb ad0 ls st h H locs cells slots lsC ad) (hr : zR1 sc n mi i ls h (x_fconst0 i ls st h zNX) = some (r, h')) (ho : okP hs (zds mi) ls h (x_fconst0 i ls st h zNX)) (hd : decode (zMI mi).2.1 (zpc mi i) = .ok (.fconst 0, 1)) (hnx : zpc mi (i + 1) = zpc mi i + 1) : W p l e R s m args below meth c H locs cells slots Q (F0 m (zpc mi i) lsC (st.map (vC bS ad))) :=
  lv_fconst0 C.1 C.2.1 hd (zf K Z hr ho hnx rfl)
theorem zs_getf (C : zCx p s m args meth c R mi D cI cD bS sc hs A H0) (K : zG0 p l e R s m args below meth c Q mi D cI cD bS sc hs A H0 n0 s0 hb ad0 r h' n) (Z : zSt mi D cI cD bS hs A H0 n0 s0 hb ad0 ls st h H locs cells slots lsC ad) {ci j ix : Nat} (hr : zR1 sc n mi i ls h (x_getf i ls st h zNX zBAD ci j) = some (r, h')) (ho : okP hs (zds mi) ls h (x_getf i ls st h zNX zBAD ci j)) (hc : ci < 6 ∧ j < (zT ci).2.2) (hcp : ((zMI mi).2.2.2.2.1, ix, 0, (ci : Int), j) ∈ ctab) (hd : decode (zMI mi).2.1 (zpc mi i) = .ok (.getfield ix, 3)) (hnx : zpc mi (i + 1) = zpc mi i + 3) : W p l e R s m args below meth c H locs cells slots Q (F0 m (zpc mi i) lsC (st.map (vC bS ad))) := by
  unfold x_getf at hr ho
  split at hr
  next k st' =>
    try dsimp only at ho
    have hk : k < h.1 := (okS_tl Z.2.2.1).1
    unfold getK at hr ho
    split at hr
    next c1 fs hg =>
      try dsimp only at ho
      rw [hg] at ho
      split at hr
      next hci =>
        try dsimp only at ho
        subst hci
        have ho := ho
        simp only [if_true] at ho
        split at hr
        next v hv =>
          try dsimp only at ho
          rw [hv] at ho
          have ht := zT_ok hc.1
          have hl := C.2.2.2.2.1 _ (cp_in hcp (by intro q; dsimp only at q; omega))
          refine va_get (ws := cw cI cD bS ad h) (a := ad k) (cl := vwCl) (C := (zT c1).1) (T := (zT c1).2.1) (N := (zT c1).2.2) (ref := (zT c1).1) (ci := c1) (fs := fs.map (vC bS ad)) (v := vC bS ad v) C.1 C.2.1 C.2.2.2.2.1 (fun w hw => x_in c1 hc.1 w (List.mem_append_left _ hw)) C.2.2.2.1 C.2.2.2.2.2.1 Z.2.2.2.1 k (by rw [cw_get hk, hg]; rfl) (zT_get hc.1) j hc.2 hl ?_ (by rw [List.getElem?_map, hv]; rfl) hd ?_
          · rw [(ht.2 j hc.2).1]; exact fun _ q => q
          · exact zf K Z hr ho hnx rfl
        next => cases hr
      next => cases hr
    next => cases hr
  next => cases hr
theorem zs_putf (C : zCx p s m args meth c R mi D cI cD bS sc hs A H0) (K : zG0 p l e R s m args below meth c Q mi D cI cD bS sc hs A H0 n0 s0 hb ad0 r h' n) (Z : zSt mi D cI cD bS hs A H0 n0 s0 hb ad0 ls st h H locs cells slots lsC ad) {ci j ix : Nat} (hr : zR1 sc n mi i ls h (x_putf i ls st h zNX zBAD ci j) = some (r, h')) (ho : okP hs (zds mi) ls h (x_putf i ls st h zNX zBAD ci j)) (hc : ci < 6 ∧ j < (zT ci).2.2) (hcp : ((zMI mi).2.2.2.2.1, ix, 0, (ci : Int), j) ∈ ctab) (hf : (!(((zT ci).2.1 j).2.2.2) || ((zMI mi).2.2.2.2.2 == 2 && (zMI mi).2.2.2.2.1 == ci)) = true) (hown : ci < 6 → zN ci = (zT ci).1) (hd : decode (zMI mi).2.1 (zpc mi i) = .ok (.putfield ix, 3)) (hnx : zpc mi (i + 1) = zpc mi i + 3) : W p l e R s m args below meth c H locs cells slots Q (F0 m (zpc mi i) lsC (st.map (vC bS ad))) := by
  unfold x_putf at hr ho
  split at hr
  next v k st' =>
    try dsimp only at ho
    split at hr
    next hok =>
      try dsimp only at ho
      rw [if_pos hok] at ho
      have hk : k < h.1 := (okS_tl (okS_tl Z.2.2.1).2).1
      unfold putK at hr ho
      split at hr
      next c1 fs hg =>
        try dsimp only at ho
        rw [hg] at ho
        split at hr
        next hci =>
          try dsimp only at ho
          subst hci
          have ho := ho
          simp only [if_true] at ho
          have ht := zT_ok hc.1
          have hl := C.2.2.2.2.1 _ (cp_in hcp (by intro q; dsimp only at q; omega))
          have hfs := Z.1 k hk
          rw [hg] at hfs
          have hlen : j < (fs.map (vC bS ad)).length := by rw [List.length_map, hfs.2.1]; exact hc.2
          have hty : ∀ k, k < (zT c1).2.2 → parseFieldDescriptor ((zT c1).2.1 k).2.2.1 = some ((parseFieldDescriptor ((zT c1).2.1 k).2.2.1).getD .int) := by
            intro k hk
            rcases (ht.2 k hk).2 with ⟨-, q⟩ | ⟨-, ⟨n, q⟩ | ⟨n, q⟩⟩ <;> rw [q] <;> rfl
          have hnf : ∃ ty, parseFieldDescriptor ((zT c1).2.1 j).2.2.1 = some ty ∧ narrow ty (vC bS ad v) = vC bS ad v ∧ Jvm.fits ty (vC bS ad v) = true := by
            unfold okF at hok
            rcases (ht.2 j hc.2).2 with ⟨a, q⟩ | ⟨a, q⟩
            · rw [a] at hok
              rcases v with z | (_ | k) | b | b | u
              · exact ⟨_, q, rfl, rfl⟩
              · cases hok
              · cases hok
              · cases hok
              · cases hok
              · cases hok
            · rw [a] at hok
              rcases v with z | (_ | k) | b | b | u
              · cases hok
              · rcases q with ⟨n, q⟩ | ⟨n, q⟩ <;> exact ⟨_, q, rfl, rfl⟩
              · rcases q with ⟨n, q⟩ | ⟨n, q⟩ <;> exact ⟨_, q, rfl, rfl⟩
              · cases hok
              · cases hok
              · cases hok
          obtain ⟨ty, hp, hn, hfit⟩ := hnf
          have hm : (fs.map (vC bS ad)).set j (vC bS ad v) = (fs.set j v).map (vC bS ad) := by rw [List.map_set]
          by_cases hfin : ((zT c1).2.1 j).2.2.2 = true
          · rw [hfin] at hf
            simp only [Bool.not_true, Bool.false_or, Bool.and_eq_true, beq_iff_eq] at hf
            refine va_putF (ws := cw cI cD bS ad h) (a := ad k) (cl := vwCl) (C := (zT c1).1) (T := (zT c1).2.1) (N := (zT c1).2.2) (ref := (zT c1).1) (ci := c1) (fs := fs.map (vC bS ad)) (v := vC bS ad v) (ty := ty) C.1 C.2.1 C.2.2.2.2.1 (fun w hw => x_in c1 hc.1 w (List.mem_append_left _ hw)) _ hty (zT_nm c1 hc.1) C.2.2.2.1 C.2.2.2.2.2.1 Z.2.2.2.1 Z.2.2.2.2.1 Z.2.2.2.2.2.1 k (by rw [cw_get hk, hg]; rfl) (zT_get hc.1) j hc.2 hl ?_ hfin (C.2.2.2.2.2.2.2.2.1 hf.1) ?_ hp hn hfit hlen hd ?_
            · rw [(ht.2 j hc.2).1]; exact fun _ q => q
            · rw [(ht.2 j hc.2).1, ← hown hc.1, hf.2]
            · intro H1 locs1 hP hD hS
              rw [hm] at hP hD
              exact zfh K Z hr ho hk hP hD hS hnx rfl
          · refine va_put (ws := cw cI cD bS ad h) (a := ad k) (cl := vwCl) (C := (zT c1).1) (T := (zT c1).2.1) (N := (zT c1).2.2) (ref := (zT c1).1) (ci := c1) (fs := fs.map (vC bS ad)) (v := vC bS ad v) (ty := ty) C.1 C.2.1 C.2.2.2.2.1 (fun w hw => x_in c1 hc.1 w (List.mem_append_left _ hw)) _ hty (zT_nm c1 hc.1) C.2.2.2.1 C.2.2.2.2.2.1 Z.2.2.2.1 Z.2.2.2.2.1 Z.2.2.2.2.2.1 k (by rw [cw_get hk, hg]; rfl) (zT_get hc.1) j hc.2 hl ?_ (by simpa using hfin) hp hn hfit hlen hd ?_
            · rw [(ht.2 j hc.2).1]; exact fun _ q => q
            · intro H1 locs1 hP hD hS
              rw [hm] at hP hD
              exact zfh K Z hr ho hk hP hD hS hnx rfl
        next => cases hr
      next => cases hr
    next => cases hr
  next => cases hr
theorem zi_ofn (n : Nat) : Int32.ofInt (n : Int) = Int32.ofNat n := by first | rfl | exact Int32.ofInt_eq_ofNat | simp [Int32.ofInt, Int32.ofNat]
theorem zix {x : Int} {len : Nat} {α : Type} {g : Int → α} (hx : inR x) (h : 0 ≤ x ∧ x < len) : (fun j : Nat => g j) (Int32.ofInt x).toNatClampNeg = g x := by
  show g (((Int32.ofInt x).toNatClampNeg : Nat) : Int) = g x
  rw [zi_nat hx, Int.toNat_of_nonneg h.1]
theorem zixu {x z : Int} {g : Int → Int} (hx : inR x) (h0 : 0 ≤ x) : upd (fun j : Nat => Int32.ofInt (g j)) (Int32.ofInt x).toNatClampNeg (Int32.ofInt z) = fun j : Nat => Int32.ofInt (zup g x z j) := by
  funext j
  rw [zi_nat hx]
  unfold zup
  by_cases hj : j = x.toNat
  · rw [hj, pk_us, if_pos (Int.toNat_of_nonneg h0)]
  · rw [pk_un hj, if_neg (fun q => hj (by omega))]
theorem zixq {x : Int} {v : Nat} {g : Int → Option Nat} (hx : inR x) (h0 : 0 ≤ x) : va_up (fun j : Nat => (g j).map ad) (Int32.ofInt x).toNatClampNeg (some (ad v)) = fun j : Nat => (zup g x (some v) j).map ad := by
  funext j
  rw [zi_nat hx]
  unfold zup va_up
  by_cases hj : j = x.toNat
  · rw [if_pos hj, if_pos (by omega)]; rfl
  · rw [if_neg hj, if_neg (fun q => hj (by omega))]
theorem zs_iald (C : zCx p s m args meth c R mi D cI cD bS sc hs A H0) (K : zG0 p l e R s m args below meth c Q mi D cI cD bS sc hs A H0 n0 s0 hb ad0 r h' n) (Z : zSt mi D cI cD bS hs A H0 n0 s0 hb ad0 ls st h H locs cells slots lsC ad) (hr : zR1 sc n mi i ls h (x_iald i ls st h zNX zBAD sc) = some (r, h')) (ho : okP hs (zds mi) ls h (x_iald i ls st h zNX zBAD sc)) (hd : decode (zMI mi).2.1 (zpc mi i) = .ok (.iaload, 1)) (hnx : zpc mi (i + 1) = zpc mi i + 1) : W p l e R s m args below meth c H locs cells slots Q (F0 m (zpc mi i) lsC (st.map (vC bS ad))) := by
  unfold x_iald at hr ho
  split at hr
  next x k st' =>
    try dsimp only at ho
    have hx : inR x := (okS_tl Z.2.2.1).1
    have hk : k < h.1 := (okS_tl (okS_tl Z.2.2.1).2).1
    unfold ialK at hr ho
    split at hr
    next len g hg =>
      try dsimp only at ho
      rw [hg] at ho
      split at hr
      next q =>
        try dsimp only at ho
        have ho := ho
        simp only [q, and_self, if_true] at ho
        exact va_iald (ws := cw cI cD bS ad h) (a := ad k) (f := fun j : Nat => Int32.ofInt (g j)) C.1 C.2.1 C.2.2.2.2.2.1 Z.2.2.2.1 k 0 (by rw [cw_get hk, hg]; rfl) rfl (zi_vp hx q) hd (zf K Z hr ho hnx (congrArg (fun z => Value.int z :: st'.map (vC bS ad)) (zix (g := fun z => Int32.ofInt (g z)) hx q).symm))
      next => cases hr
    next => cases hr
  next x st' =>
    try dsimp only at ho
    split at hr
    next q =>
      try dsimp only at ho
      rw [if_pos q] at ho
      have hx : inR x := (okS_tl Z.2.2.1).1
      have hh : hs = true := (okS_tl (okS_tl Z.2.2.1).2).1
      obtain ⟨hX, hbl, hbA⟩ := C.2.2.2.2.2.2.2.2.2.2.2.2 hh
      exact va_sld C.1 C.2.1 hX hbl hbA Z.2.2.2.2.2.1 (zi_vp hx q) hd (zf K Z hr ho hnx (congrArg (fun z => Value.int z :: st'.map (vC bS ad)) (zix (g := fun z => Int32.ofInt (sc.2 z)) hx q).symm))
    next => cases hr
  next => cases hr
theorem zs_iast (C : zCx p s m args meth c R mi D cI cD bS sc hs A H0) (K : zG0 p l e R s m args below meth c Q mi D cI cD bS sc hs A H0 n0 s0 hb ad0 r h' n) (Z : zSt mi D cI cD bS hs A H0 n0 s0 hb ad0 ls st h H locs cells slots lsC ad) (hr : zR1 sc n mi i ls h (x_iast i ls st h zNX zBAD) = some (r, h')) (ho : okP hs (zds mi) ls h (x_iast i ls st h zNX zBAD)) (hd : decode (zMI mi).2.1 (zpc mi i) = .ok (.iastore, 1)) (hnx : zpc mi (i + 1) = zpc mi i + 1) : W p l e R s m args below meth c H locs cells slots Q (F0 m (zpc mi i) lsC (st.map (vC bS ad))) := by
  unfold x_iast at hr ho
  split at hr
  next z x k st' =>
    try dsimp only at ho
    have hx : inR x := (okS_tl (okS_tl Z.2.2.1).2).1
    have hk : k < h.1 := (okS_tl (okS_tl (okS_tl Z.2.2.1).2).2).1
    unfold iasK at hr ho
    split at hr
    next len g hg =>
      try dsimp only at ho
      rw [hg] at ho
      split at hr
      next q =>
        try dsimp only at ho
        have ho := ho
        simp only [q, and_self, if_true] at ho
        refine va_iast (ws := cw cI cD bS ad h) (a := ad k) (f := fun j : Nat => Int32.ofInt (g j)) C.1 C.2.1 C.2.2.2.2.2.1 Z.2.2.2.1 Z.2.2.2.2.1 Z.2.2.2.2.2.1 k 0 (by rw [cw_get hk, hg]; rfl) rfl (zi_vp hx q) hd (fun H1 locs1 hP hD hS => ?_)
        rw [zixu hx q.1] at hP hD
        exact zfh K Z hr ho hk hP hD hS hnx rfl
      next => cases hr
    next => cases hr
  next => cases hr
theorem zs_aald (C : zCx p s m args meth c R mi D cI cD bS sc hs A H0) (K : zG0 p l e R s m args below meth c Q mi D cI cD bS sc hs A H0 n0 s0 hb ad0 r h' n) (Z : zSt mi D cI cD bS hs A H0 n0 s0 hb ad0 ls st h H locs cells slots lsC ad) (hr : zR1 sc n mi i ls h (x_aald i ls st h zNX zBAD) = some (r, h')) (ho : okP hs (zds mi) ls h (x_aald i ls st h zNX zBAD)) (hd : decode (zMI mi).2.1 (zpc mi i) = .ok (.aaload, 1)) (hnx : zpc mi (i + 1) = zpc mi i + 1) : W p l e R s m args below meth c H locs cells slots Q (F0 m (zpc mi i) lsC (st.map (vC bS ad))) := by
  unfold x_aald at hr ho
  split at hr
  next x k st' =>
    try dsimp only at ho
    have hx : inR x := (okS_tl Z.2.2.1).1
    have hk : k < h.1 := (okS_tl (okS_tl Z.2.2.1).2).1
    unfold aalK at hr ho
    split at hr
    next len g hg =>
      try dsimp only at ho
      rw [hg] at ho
      split at hr
      next q =>
        try dsimp only at ho
        have ho := ho
        simp only [q, and_self, if_true] at ho
        refine va_aldq (ws := cw cI cD bS ad h) (a := ad k) (C := RX0) (f := fun j : Nat => (g j).map ad) C.1 C.2.1 C.2.2.2.2.2.1 Z.2.2.2.1 k 1 (by rw [cw_get hk, hg]; rfl) rfl (zi_vp hx q) hd (zf K Z hr ho hnx ?_)
        have e : g (((Int32.ofInt x).toNatClampNeg : Nat) : Int) = g x := zix (g := g) hx q
        show _ = va_rf (Option.map ad (g (((Int32.ofInt x).toNatClampNeg : Nat) : Int))) :: _
        rw [e]
        rw [List.map_cons]
        congr 1
        cases g x <;> rfl
      next => cases hr
    next => cases hr
  next => cases hr
theorem zs_aast (C : zCx p s m args meth c R mi D cI cD bS sc hs A H0) (K : zG0 p l e R s m args below meth c Q mi D cI cD bS sc hs A H0 n0 s0 hb ad0 r h' n) (Z : zSt mi D cI cD bS hs A H0 n0 s0 hb ad0 ls st h H locs cells slots lsC ad) (hr : zR1 sc n mi i ls h (x_aast i ls st h zNX zBAD) = some (r, h')) (ho : okP hs (zds mi) ls h (x_aast i ls st h zNX zBAD)) (hd : decode (zMI mi).2.1 (zpc mi i) = .ok (.aastore, 1)) (hnx : zpc mi (i + 1) = zpc mi i + 1) : W p l e R s m args below meth c H locs cells slots Q (F0 m (zpc mi i) lsC (st.map (vC bS ad))) := by
  unfold x_aast at hr ho
  split at hr
  next v x k st' =>
    try dsimp only at ho
    have hv : v < h.1 := (okS_tl Z.2.2.1).1
    have hx : inR x := (okS_tl (okS_tl Z.2.2.1).2).1
    have hk : k < h.1 := (okS_tl (okS_tl (okS_tl Z.2.2.1).2).2).1
    unfold aasK at hr ho
    split at hr
    next len g hg =>
      try dsimp only at ho
      rw [hg] at ho
      split at hr
      next q =>
        try dsimp only at ho
        have ho := ho
        simp only [q, and_self, if_true] at ho
        have hvd := q.2
        unfold isD at hvd
        split at hvd
        next fs hgv =>
          try dsimp only at ho
          refine va_astq (ws := cw cI cD bS ad h) (a := ad k) (v := ad v) (vs := fs.map (vC bS ad)) (f := fun j : Nat => (g j).map ad) (r := zT 0) C.1 C.2.1 C.2.2.2.2.2.1 Z.2.2.2.1 Z.2.2.2.2.1 Z.2.2.2.2.2.1 k 1 v 0 (by rw [cw_get hk, hg]; rfl) rfl (by rw [cw_get hv, hgv]; rfl) (zT_get (by omega)) (zi_vp hx q.1) hd (fun H1 locs1 hP hD hS => ?_)
          rw [zixq hx q.1.1] at hP hD
          exact zfh K Z hr ho hk hP hD hS hnx rfl
        next => cases hvd
      next => cases hr
    next => cases hr
  next => cases hr
theorem zs_alen (C : zCx p s m args meth c R mi D cI cD bS sc hs A H0) (K : zG0 p l e R s m args below meth c Q mi D cI cD bS sc hs A H0 n0 s0 hb ad0 r h' n) (Z : zSt mi D cI cD bS hs A H0 n0 s0 hb ad0 ls st h H locs cells slots lsC ad) (hr : zR1 sc n mi i ls h (x_alen i ls st h zNX zBAD sc) = some (r, h')) (ho : okP hs (zds mi) ls h (x_alen i ls st h zNX zBAD sc)) (hd : decode (zMI mi).2.1 (zpc mi i) = .ok (.arraylength, 1)) (hnx : zpc mi (i + 1) = zpc mi i + 1) : W p l e R s m args below meth c H locs cells slots Q (F0 m (zpc mi i) lsC (st.map (vC bS ad))) := by
  unfold x_alen at hr ho
  split at hr
  next k st' =>
    try dsimp only at ho
    have hk : k < h.1 := (okS_tl Z.2.2.1).1
    unfold alnK at hr ho
    split at hr
    next len g hg =>
      try dsimp only at ho
      rw [hg] at ho
      exact va_alen (ws := cw cI cD bS ad h) (a := ad k) (x := (len, .inl (fun j : Nat => Int32.ofInt (g j)))) C.1 C.2.1 C.2.2.2.2.2.1 Z.2.2.2.1 k 0 (by rw [cw_get hk, hg]; rfl) rfl (v := Int32.ofInt (len : Int)) (zi_ofn len).symm hd (zf K Z hr ho hnx rfl)
    next => cases hr
  next st' =>
    try dsimp only at ho
    have hh : hs = true := (okS_tl Z.2.2.1).1
    obtain ⟨hX, hbl, hbA⟩ := C.2.2.2.2.2.2.2.2.2.2.2.2 hh
    exact va_slen C.1 C.2.1 hX hbl hbA Z.2.2.2.2.2.1 hd (zf K Z hr ho hnx (congrArg (fun z => Value.int z :: st'.map (vC bS ad)) (zi_ofn sc.1)))
  next => cases hr
theorem zs_oinit (C : zCx p s m args meth c R mi D cI cD bS sc hs A H0) (K : zG0 p l e R s m args below meth c Q mi D cI cD bS sc hs A H0 n0 s0 hb ad0 r h' n) (Z : zSt mi D cI cD bS hs A H0 n0 s0 hb ad0 ls st h H locs cells slots lsC ad) {ix : Nat} (hr : zR1 sc n mi i ls h (x_oinit i ls st h zNX zBAD) = some (r, h')) (ho : okP hs (zds mi) ls h (x_oinit i ls st h zNX zBAD)) (hcp : ((zMI mi).2.2.2.2.1, ix, 5, (0 : Int), 0) ∈ ctab) (hrm : 1 ≤ rmF.getD mi 0 ∧ 20 ≤ rmL.getD mi 0) (hd : decode (zMI mi).2.1 (zpc mi i) = .ok (.invokespecial ix, 3)) (hnx : zpc mi (i + 1) = zpc mi i + 3) : W p l e R s m args below meth c H locs cells slots Q (F0 m (zpc mi i) lsC (st.map (vC bS ad))) := by
  unfold x_oinit at hr ho
  split at hr
  next k st' =>
    try dsimp only at ho
    split at hr
    next q =>
      try dsimp only at ho
      rw [if_pos q] at ho
      have hl := C.2.2.2.2.1 _ (cp_in hcp (by intro q; dsimp only at q; omega))
      have hR := C.2.2.2.2.2.2.2.2.2
      refine W.objInit (a := ad k) (rest := st'.map (vC bS ad)) C.1 C.2.1 C.2.2.2.1 hl (C.2.2.2.2.1 _ (o_in _ (by simp [oW]))) (C.2.2.2.2.1 _ (o_in _ (by simp [oW]))) rfl (by rw [C.2.2.1]; exact Z.2.2.2.2.2.2.1.2.1) rfl hd (Nat.le_trans hrm.1 hR.1) ?_ ?_
      · rw [zcat q.2]
        show 2 * 0 + _ + 12 ≤ _
        have := hR.2.1
        omega
      · exact zf K Z hr ho hnx rfl
    next => cases hr
  next => cases hr
end SIM
