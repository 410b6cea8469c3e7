/-! NUMBERS: the small machine's are integers in the range of int -/
def inR (z : Int) : Prop := -2147483648 ≤ z ∧ z ≤ 2147483647
theorem inR_wr (z : Int) : inR (zwr z) := by unfold inR zwr; omega
theorem zi_ti {z : Int} (h : inR z) : (Int32.ofInt z).toInt = z := by
  unfold inR at h
  rw [Int32.toInt_ofInt, Int.bmod_def]
  simp only [Int32.size]
  split <;> omega
theorem zi_wr (z : Int) : Int32.ofInt (zwr z) = Int32.ofInt z := by
  apply Int32.toInt_inj.mp
  rw [zi_ti (inR_wr z), Int32.toInt_ofInt, Int.bmod_def]
  simp only [Int32.size, zwr]
  split <;> omega
theorem zi_in (x : Int32) : inR x.toInt := by
  have h1 := Int32.le_toInt x
  have h2 := Int32.toInt_lt x
  unfold inR
  omega
theorem zi_of (x : Int32) : Int32.ofInt x.toInt = x := Int32.toInt_inj.mp (zi_ti (zi_in x))
theorem zi_lt {a b : Int} (ha : inR a) (hb : inR b) : Int32.ofInt a < Int32.ofInt b ↔ a < b := by rw [Int32.lt_iff_toInt_lt, zi_ti ha, zi_ti hb]
theorem zi_le {a b : Int} (ha : inR a) (hb : inR b) : Int32.ofInt a ≤ Int32.ofInt b ↔ a ≤ b := by rw [Int32.le_iff_toInt_le, zi_ti ha, zi_ti hb]
theorem zi_eq {a b : Int} (ha : inR a) (hb : inR b) : Int32.ofInt a = Int32.ofInt b ↔ a = b := by rw [← Int32.toInt_inj, zi_ti ha, zi_ti hb]
theorem zi_0 : (0 : Int32) = Int32.ofInt 0 := rfl
theorem inR_0 : inR 0 := by unfold inR; omega
theorem zi_add (a b : Int) : Int32.ofInt (zwr (a + b)) = Int32.ofInt a + Int32.ofInt b := by rw [zi_wr, Int32.ofInt_add]
theorem zi_sub (a b : Int) : Int32.ofInt (zwr (a - b)) = Int32.ofInt a - Int32.ofInt b := by rw [zi_wr, Int32.ofInt_sub]
theorem zi_mul (a b : Int) : Int32.ofInt (zwr (a * b)) = Int32.ofInt a * Int32.ofInt b := by rw [zi_wr, Int32.ofInt_mul]
theorem zi_divIn {a b : Int} (ha : inR a) (h0 : 0 ≤ a) (hb : 0 < b) : inR (a / b) := by
  unfold inR at *
  have h1 : 0 ≤ a / b := Int.ediv_nonneg h0 (by omega)
  have h2 : a / b ≤ a := Int.ediv_le_self b h0
  omega
theorem zi_div {a b : Int} (ha : inR a) (hb : inR b) (h0 : 0 ≤ a) (hp : 0 < b) : Int32.ofInt (a / b) = Int32.ofInt a / Int32.ofInt b := by
  apply Int32.toInt_inj.mp
  rw [zi_ti (zi_divIn ha h0 hp), Int32.toInt_div, zi_ti ha, zi_ti hb, Int.tdiv_eq_ediv_of_nonneg h0]
  have h3 := zi_divIn ha h0 hp
  unfold inR at h3
  rw [Int.bmod_def]
  split <;> omega
theorem zi_modIn {a b : Int} (hb : inR b) (hp : 0 < b) : inR (a % b) := by
  unfold inR at *
  have h1 := Int.emod_nonneg a (show b ≠ 0 by omega)
  have h2 := Int.emod_lt_of_pos a hp
  omega
theorem zi_mod {a b : Int} (ha : inR a) (hb : inR b) (h0 : 0 ≤ a) (hp : 0 < b) : Int32.ofInt (a % b) = Int32.ofInt a - Int32.ofInt a / Int32.ofInt b * Int32.ofInt b := by
  rw [← zi_div ha hb h0 hp, ← Int32.ofInt_mul, ← Int32.ofInt_sub]
  congr 1
  rw [Int.emod_def, Int.mul_comm]
theorem zi_ne0 {b : Int} (hb : inR b) (hp : 0 < b) : ¬ Int32.ofInt b = 0 := by
  rw [zi_0, zi_eq hb inR_0]; omega
theorem zi_nat {x : Int} (hx : inR x) : (Int32.ofInt x).toNatClampNeg = x.toNat := by
  show (Int32.ofInt x).toInt.toNat = _
  rw [zi_ti hx]
theorem zi_vp {x : Int} {n : Nat} (hx : inR x) (h : 0 ≤ x ∧ x < n) : vp_in (Int32.ofInt x) n := by
  rw [vp_in_iff, zi_ti hx]; exact h
theorem zi_lit {n : Int} (h : -128 ≤ n ∧ n < 128) : (Int8.ofInt n).toInt32 = Int32.ofInt n := by
  apply Int32.toInt_inj.mp
  rw [zi_ti (by unfold inR; omega), Int8.toInt_toInt32, Int8.toInt_ofInt, Int.bmod_def]
  simp only [Int8.size]
  split <;> omega
theorem zi_lit16 {n : Int} (h : -32768 ≤ n ∧ n < 32768) : (Int16.ofInt n).toInt32 = Int32.ofInt n := by
  apply Int32.toInt_inj.mp
  rw [zi_ti (by unfold inR; omega), Int16.toInt_toInt32, Int16.toInt_ofInt, Int.bmod_def]
  simp only [Int16.size]
  split <;> omega
/-! WHAT THE SMALL MACHINE'S THINGS ARE IN THE GREAT ONE: 'ad' gives each cell its address, 'bS' is the script's -/
def vC (bS : Nat) (ad : Nat → Nat) : zV → Value
  | .inl z => .int (Int32.ofInt z)
  | .inr (.inl none) => .null
  | .inr (.inl (some k)) => .ref (ad k)
  | .inr (.inr (.inl b)) => .float b
  | .inr (.inr (.inr (.inl b))) => .double b
  | .inr (.inr (.inr (.inr ()))) => .ref bS
def cE (cI cD : ClassId) (bS : Nat) (ad : Nat → Nat) : zC → va_E
  | .inl (ci, fs) => .inr (ci, fs.map (vC bS ad))
  | .inr (.inl (n, f)) => .inl (cI, n, .inl (fun j : Nat => Int32.ofInt (f j)))
  | .inr (.inr (n, g)) => .inl (cD, n, .inr (.inr (.inr (.inr (fun j : Nat => (g j).map ad)))))
def cw (cI cD : ClassId) (bS : Nat) (ad : Nat → Nat) (h : zH) : va_W := (List.range h.1).map (fun k => (ad k, cE cI cD bS ad (zgt h k)))
def okV (hs : Bool) (n : Nat) : zV → Prop
  | .inl z => inR z
  | .inr (.inl none) => True
  | .inr (.inl (some k)) => k < n
  | .inr (.inr (.inr (.inr ()))) => hs = true
  | _ => True
def okC (n : Nat) : zC → Prop
  | .inl (ci, fs) => ci < 6 ∧ fs.length = (zT ci).2.2 ∧ ∀ (j : Nat) (v : zV), fs[j]? = some v → okF ci j v = true ∧ okV false n v
  | .inr (.inl (len, f)) => len ≤ 10000 ∧ ∀ i, inR (f i)
  | .inr (.inr (len, g)) => len ≤ 10000 ∧ ∀ i k, g i = some k → k < n
def okH (h : zH) : Prop := ∀ k, k < h.1 → okC h.1 (zgt h k)
def okS (hs : Bool) (n : Nat) (st : List zV) : Prop := ∀ v ∈ st, okV hs n v
def dbl : zV → Bool
  | .inr (.inr (.inr (.inl _))) => true
  | _ => false
def okL (hs : Bool) (n : Nat) (ds : List Nat) (ls : zL) : Prop := ∀ (i : Nat) (v : zV), ls[i]? = some (some v) → okV hs n v ∧ (dbl v = true → i ∈ ds)
theorem vC_cat {bS : Nat} {ad : Nat → Nat} (v : zV) : (vC bS ad v).category = if dbl v then 2 else 1 := by
  rcases v with z | (_ | k) | b | b | u <;> rfl
theorem vC_agree {bS n : Nat} {ad ad' : Nat → Nat} {hs : Bool} {v : zV} (h : okV hs n v) (ha : ∀ k, k < n → ad' k = ad k) : vC bS ad' v = vC bS ad v := by
  rcases v with z | (_ | k) | b | b | u
  · rfl
  · rfl
  · show Value.ref _ = Value.ref _
    rw [ha k h]
  · rfl
  · rfl
  · rfl
theorem okV_mono {hs : Bool} {n n' : Nat} {v : zV} (h : okV hs n v) (hn : n ≤ n') : okV hs n' v := by
  rcases v with z | (_ | k) | b | b | u
  · exact h
  · exact h
  · exact Nat.lt_of_lt_of_le h hn
  · exact h
  · exact h
  · exact h
theorem okC_mono {n n' : Nat} {c : zC} (h : okC n c) (hn : n ≤ n') : okC n' c := by
  rcases c with ⟨ci, fs⟩ | ⟨len, f⟩ | ⟨len, g⟩
  · exact ⟨h.1, h.2.1, fun j v hj => ⟨(h.2.2 j v hj).1, okV_mono (h.2.2 j v hj).2 hn⟩⟩
  · exact h
  · exact ⟨h.1, fun i k hk => Nat.lt_of_lt_of_le (h.2 i k hk) hn⟩
theorem okS_mono {hs : Bool} {n n' : Nat} {st : List zV} (h : okS hs n st) (hn : n ≤ n') : okS hs n' st := fun v hv => okV_mono (h v hv) hn
theorem okL_mono {hs : Bool} {n n' : Nat} {ds : List Nat} {ls : zL} (h : okL hs n ds ls) (hn : n ≤ n') : okL hs n' ds ls := fun i v hv => ⟨okV_mono (h i v hv).1 hn, (h i v hv).2⟩
theorem cE_agree {cI cD : ClassId} {bS n : Nat} {ad ad' : Nat → Nat} {c : zC} (h : okC n c) (ha : ∀ k, k < n → ad' k = ad k) : cE cI cD bS ad' c = cE cI cD bS ad c := by
  rcases c with ⟨ci, fs⟩ | ⟨len, f⟩ | ⟨len, g⟩
  · have : fs.map (vC bS ad') = fs.map (vC bS ad) := by
      apply List.map_congr_left
      intro v hv
      obtain ⟨j, hj⟩ := List.getElem?_of_mem hv
      exact vC_agree (h.2.2 j v hj).2 ha
    show Sum.inr (ci, _) = Sum.inr (ci, _)
    rw [this]
  · rfl
  · have : (fun j : Nat => (g j).map ad') = fun j : Nat => (g j).map ad := by
      funext j
      cases hg : g j with
      | none => rfl
      | some k =>
        show some (ad' k) = some (ad k)
        rw [ha k (h.2 j k hg)]
    show Sum.inl (cD, len, _) = Sum.inl (cD, len, _)
    rw [this]
theorem cw_get {cI cD : ClassId} {bS : Nat} {ad : Nat → Nat} {h : zH} {k : Nat} (hk : k < h.1) : (cw cI cD bS ad h)[k]? = some (ad k, cE cI cD bS ad (zgt h k)) := by
  simp [cw, hk]
theorem zgt_u (h : zH) (k j : Nat) (c : zC) : zgt (zuH h k c) j = if j = k then c else zgt h j := rfl
theorem zgt_a (h : zH) (n j : Nat) (c : zC) : zgt (zaH h n c) j = if j = h.1 then c else zgt h j := rfl
theorem cw_set {cI cD : ClassId} {bS : Nat} {ad : Nat → Nat} {h : zH} {k : Nat} {c : zC} (hk : k < h.1) : (cw cI cD bS ad h).set k (ad k, cE cI cD bS ad c) = cw cI cD bS ad (zuH h k c) := by
  apply List.ext_getElem?
  intro j
  rw [List.getElem?_set]
  by_cases hj : j < h.1
  · rw [cw_get (h := zuH h k c) (show j < (zuH h k c).1 from hj), zgt_u]
    by_cases hkj : k = j
    · subst hkj
      simp [cw, hk]
    · rw [if_neg hkj, cw_get hj, if_neg (fun q => hkj q.symm)]
  · have h1 : (cw cI cD bS ad h)[j]? = none := List.getElem?_eq_none (by simp [cw]; omega)
    have h2 : (cw cI cD bS ad (zuH h k c))[j]? = none := List.getElem?_eq_none (by simp [cw]; exact Nat.not_lt.mp hj)
    rw [h1, h2]
    by_cases hkj : k = j
    · omega
    · rw [if_neg hkj]
theorem cw_push {cI cD : ClassId} {bS q n : Nat} {ad ad' : Nat → Nat} {h : zH} {c : zC} (ho : okH h) (ha : ∀ k, k < h.1 → ad' k = ad k) (hq : ad' h.1 = q) : cw cI cD bS ad h ++ [(q, cE cI cD bS ad' c)] = cw cI cD bS ad' (zaH h n c) := by
  show _ = (List.range (h.1 + 1)).map _
  rw [List.range_succ, List.map_append]
  congr 1
  · apply List.map_congr_left
    intro k hk
    have hk := List.mem_range.mp hk
    rw [zgt_a, if_neg (by omega), ha k hk, cE_agree (ho k hk) ha]
  · simp [zgt_a, hq]
def zlv (bS : Nat) (ad : Nat → Nat) (ls : zL) : List (Nat × Value) := (List.range ls.length).filterMap (fun i => match ls[i]? with
  | some (some v) => some (i, vC bS ad v)
  | _ => none)
theorem zlv_mem {bS : Nat} {ad : Nat → Nat} {ls : zL} {q : Nat × Value} : q ∈ zlv bS ad ls ↔ ∃ v, ls[q.1]? = some (some v) ∧ q.2 = vC bS ad v := by
  constructor
  · intro hq
    obtain ⟨i, hi, h⟩ := List.mem_filterMap.mp hq
    cases hl : ls[i]? with
    | none => rw [hl] at h; cases h
    | some o =>
      cases o with
      | none => rw [hl] at h; cases h
      | some v => rw [hl] at h; cases h; exact ⟨v, hl, rfl⟩
  · rintro ⟨v, h1, h2⟩
    refine List.mem_filterMap.mpr ⟨q.1, List.mem_range.mpr (List.getElem?_eq_some_iff.mp h1).1, ?_⟩
    rw [h1]
    show some (q.1, vC bS ad v) = some q
    rw [← h2]
def lR (bS : Nat) (ad : Nat → Nat) (mx : Nat) (ls : zL) (lsC : Array Slot) : Prop := ls.length = mx ∧ lv_has lsC mx (zlv bS ad ls)
theorem lR_get {bS mx i : Nat} {ad : Nat → Nat} {ls : zL} {lsC : Array Slot} {v : zV} (h : lR bS ad mx ls lsC) (hi : ls[i]? = some (some v)) : lsC[i]? = some (.val (vC bS ad v)) := h.2.2.2 (i, vC bS ad v) (zlv_mem.mpr ⟨v, hi, rfl⟩)
theorem lR_agree {bS mx n : Nat} {ad ad' : Nat → Nat} {hs : Bool} {ds : List Nat} {ls : zL} {lsC : Array Slot} (h : lR bS ad mx ls lsC) (ho : okL hs n ds ls) (ha : ∀ k, k < n → ad' k = ad k) : lR bS ad' mx ls lsC := by
  refine ⟨h.1, h.2.1, h.2.2.1, fun q hq => ?_⟩
  obtain ⟨v, h1, h2⟩ := zlv_mem.mp hq
  rw [h2, vC_agree (ho _ _ h1).1 ha]
  exact lR_get h h1
theorem lR_set {bS mx i : Nat} {ad : Nat → Nat} {ls : zL} {lsC lsC' : Array Slot} {v : zV} {x : Value} {P : Nat × Value → Bool} (h : lR bS ad mx ls lsC) (hx : x = vC bS ad v)
    (hl : lv_has lsC' mx ((i, x) :: (zlv bS ad ls).filter P)) (hP : ∀ q ∈ zlv bS ad ls, q.1 ≠ i → P q = true) : lR bS ad mx (ls.set i (some v)) lsC' := by
  refine ⟨by rw [List.length_set]; exact h.1, hl.1, hl.2.1, fun q hq => ?_⟩
  obtain ⟨w, h1, h2⟩ := zlv_mem.mp hq
  rw [List.getElem?_set] at h1
  by_cases hi : i = q.1
  · rw [if_pos hi] at h1
    split at h1
    · cases h1
      exact hl.2.2 q (List.mem_cons.mpr (Or.inl (by rw [hi, hx, ← h2])))
    · cases h1
  · rw [if_neg hi] at h1
    have hm : q ∈ zlv bS ad ls := zlv_mem.mpr ⟨w, h1, h2⟩
    exact hl.2.2 q (List.mem_cons_of_mem _ (List.mem_filter.mpr ⟨hm, hP q hm (fun z => hi z.symm)⟩))
/-! classes and fields -/
theorem zT_get {ci : Nat} (h : ci < 6) : vwCl[ci]? = some (zT ci) := by
  have h7 : ci < vwCl.length := h
  simp [zT, List.getD_eq_getElem?_getD, List.getElem?_eq_getElem h7]
set_option maxRecDepth 100000 in
theorem zT_nm : ∀ ci, ci < 6 → ∀ a, a < (zT ci).2.2 → ∀ b, b < (zT ci).2.2 → a ≠ b → ((zT ci).2.1 a).2.1 ≠ ((zT ci).2.1 b).2.1 := by decide +kernel
theorem zT_ok {ci : Nat} (hc : ci < 6) : (fkt.getD ci []).length = (zT ci).2.2 ∧ ∀ k, k < (zT ci).2.2 → ((zT ci).2.1 k).1 = (zT ci).1 ∧
    (((fkt.getD ci []).getD k 9 = 0 ∧ parseFieldDescriptor ((zT ci).2.1 k).2.2.1 = some .int) ∨ ((fkt.getD ci []).getD k 9 = 1 ∧ ((∃ n, parseFieldDescriptor ((zT ci).2.1 k).2.2.1 = some (.object n)) ∨ ∃ t, parseFieldDescriptor ((zT ci).2.1 k).2.2.1 = some (.array t)))) := by
  have h1 : ci < vwCl.length := hc
  have h2 : ci < fkt.length := hc
  have h3 : (vwCl.zip fkt)[ci]? = some (zT ci, fkt.getD ci []) := by
    rw [List.getElem?_zip_eq_some]
    exact ⟨zT_get hc, by rw [List.getD_eq_getElem?_getD, List.getElem?_eq_getElem h2]; rfl⟩
  have h4 := List.all_eq_true.mp t_all _ (List.mem_of_getElem? h3)
  simp only [tOk, Bool.and_eq_true, decide_eq_true_eq] at h4
  refine ⟨h4.1, fun k hk => ?_⟩
  have h5 := List.all_eq_true.mp h4.2 k (List.mem_range.mpr hk)
  simp only [Bool.and_eq_true, decide_eq_true_eq] at h5
  refine ⟨h5.1, ?_⟩
  have h6 := h5.2
  split at h6
  next a b => exact Or.inl ⟨a, b⟩
  next n a b => exact Or.inr ⟨a, Or.inl ⟨n, b⟩⟩
  next t a b => exact Or.inr ⟨a, Or.inr ⟨t, b⟩⟩
  next => cases h6
