/-! MATCHES BY WORDS AND BY POSITIONS -/
theorem sumF_add {f g : Int → Int} : ∀ (j : Nat) (i : Int), sumF (fun k => f k + g k) j i = sumF f j i + sumF g j i
  | 0, _ => rfl
  | j + 1, i => by
    have ih := sumF_add (f := f) (g := g) j (i + 1)
    unfold sumF
    omega
theorem sumF_mul {f : Int → Int} {w : Int} : ∀ (j : Nat) (i : Int), sumF (fun k => f k * w) j i = sumF f j i * w
  | 0, _ => by show (0 : Int) = 0 * w; omega
  | j + 1, i => by
    have ih := sumF_mul (f := f) (w := w) j (i + 1)
    unfold sumF
    rw [ih, Int.add_mul]
theorem sumF_zero : ∀ (j : Nat) (i : Int), sumF (fun _ => 0) j i = 0
  | 0, _ => rfl
  | j + 1, i => by have := sumF_zero j (i + 1); unfold sumF; omega
theorem zb_b (p : Prop) [Decidable p] : 0 ≤ zb p ∧ zb p ≤ 1 := by rcases zb_01 p with h | h <;> omega
theorem sumF_nn {f : Int → Int} {K : Int} : ∀ (j : Nat) (i : Int), (∀ k, 0 ≤ f k ∧ f k ≤ K) → 0 ≤ sumF f j i ∧ sumF f j i ≤ K * j
  | 0, _, _ => by simp [sumF]
  | j + 1, i, h => by
    have h1 := h i
    have h2 := sumF_nn j (i + 1) h
    have e : K * ((j + 1 : Nat) : Int) = K * j + K := by rw [show ((j + 1 : Nat) : Int) = (j : Int) + 1 by omega, Int.mul_add, Int.mul_one]
    unfold sumF
    rw [e]
    omega
def ocL (T : Int → Int) (n : Int) : List zI → Int
  | [] => 0
  | x :: L => occ T n x.2.1 + ocL T n L
def owL (T : Int → Int) (n : Int) : List zI → Int
  | [] => 0
  | x :: L => occ T n x.2.1 * x.2.2 + owL T n L
theorem ocL_app {T : Int → Int} {n : Int} {x : zI} : ∀ {P : List zI}, ocL T n (P ++ [x]) = ocL T n P + occ T n x.2.1
  | [] => by show occ T n x.2.1 + 0 = 0 + occ T n x.2.1; omega
  | y :: P => by
    have ih := ocL_app (T := T) (n := n) (x := x) (P := P)
    show occ T n y.2.1 + ocL T n (P ++ [x]) = occ T n y.2.1 + ocL T n P + occ T n x.2.1
    omega
theorem owL_app {T : Int → Int} {n : Int} {x : zI} : ∀ {P : List zI}, owL T n (P ++ [x]) = owL T n P + occ T n x.2.1 * x.2.2
  | [] => by show occ T n x.2.1 * x.2.2 + 0 = 0 + occ T n x.2.1 * x.2.2; omega
  | y :: P => by
    have ih := owL_app (T := T) (n := n) (x := x) (P := P)
    show occ T n y.2.1 * y.2.2 + owL T n (P ++ [x]) = occ T n y.2.1 * y.2.2 + owL T n P + occ T n x.2.1 * x.2.2
    omega
theorem occ_eA {T : Int → Int} {n c : Int} : occ T n c = sumF (fun i => zb (eA T i c = true)) n.toNat 0 := by
  unfold occ
  refine sumF_cg _ _ (fun k _ _ => ?_)
  refine zb_cg ?_
  unfold eA
  rw [decide_eq_true_eq]
theorem occ_b {T : Int → Int} {n c : Int} (h : n ≤ 60) : 0 ≤ occ T n c ∧ occ T n c ≤ 60 := by
  have := sumF_nn (f := fun i => zb (enT T (i + 1) (nd c).toNat = c)) (K := 1) n.toNat 0 (fun k => zb_b _)
  unfold occ
  omega
theorem mul_bd {a w : Int} (h0 : 0 ≤ a) (h1 : a ≤ 60) (h2 : -99 ≤ w) (h3 : w ≤ 99) : -5940 ≤ a * w ∧ a * w ≤ 5940 := by
  have p1 := Int.mul_le_mul_of_nonneg_left h3 h0
  have p2 := Int.mul_le_mul_of_nonneg_left h2 h0
  omega
theorem ocL_b {T : Int → Int} {n : Int} (h : n ≤ 60) : ∀ (L : List zI), 0 ≤ ocL T n L ∧ ocL T n L ≤ 60 * (L.length : Int)
  | [] => by simp [ocL]
  | x :: L => by
    have := occ_b (T := T) (c := x.2.1) h
    have := ocL_b (T := T) h L
    unfold ocL
    rw [List.length_cons]
    omega
theorem owL_b {T : Int → Int} {n : Int} (h : n ≤ 60) : ∀ {L : List zI}, okIs L → -5940 * (L.length : Int) ≤ owL T n L ∧ owL T n L ≤ 5940 * (L.length : Int)
  | [], _ => by simp [owL]
  | x :: L, ho => by
    have ho := okIs_c.mp ho
    have h1 := occ_b (T := T) (c := x.2.1) h
    have h2 := mul_bd h1.1 h1.2 ho.1.2.2.2.1 ho.1.2.2.2.2
    have h3 := owL_b (T := T) h ho.2
    unfold owL
    rw [List.length_cons]
    omega
theorem ocL_sum {T : Int → Int} {n : Int} : ∀ (L : List zI), ocL T n L = sumF (fun i => ((fE T i L).length : Int)) n.toNat 0
  | [] => by
    have : sumF (fun i => ((fE T i []).length : Int)) n.toNat 0 = 0 := (sumF_cg (g := fun _ => 0) _ _ (fun _ _ _ => rfl)).trans (sumF_zero _ _)
    rw [this]
    rfl
  | x :: L => by
    have ih := ocL_sum (T := T) (n := n) L
    have e : sumF (fun i => ((fE T i (x :: L)).length : Int)) n.toNat 0 = sumF (fun i => zb (eA T i x.2.1 = true) + ((fE T i L).length : Int)) n.toNat 0 := sumF_cg _ _ (fun k _ _ => by
      show ((fE T k (x :: L)).length : Int) = _
      rw [fE_c]
      by_cases h : eA T k x.2.1 = true
      · rw [if_pos h, zb_t h, List.length_cons]; omega
      · rw [if_neg h, zb_f h]; omega)
    rw [e, sumF_add, ← ih, ← occ_eA]
    rfl
theorem owL_sum {T : Int → Int} {n : Int} : ∀ (L : List zI), owL T n L = sumF (fun i => wsum (fE T i L)) n.toNat 0
  | [] => by
    have : sumF (fun i => wsum (fE T i [])) n.toNat 0 = 0 := (sumF_cg (g := fun _ => 0) _ _ (fun _ _ _ => rfl)).trans (sumF_zero _ _)
    rw [this]
    rfl
  | x :: L => by
    have ih := owL_sum (T := T) (n := n) L
    have e : sumF (fun i => wsum (fE T i (x :: L))) n.toNat 0 = sumF (fun i => zb (eA T i x.2.1 = true) * x.2.2 + wsum (fE T i L)) n.toNat 0 := sumF_cg _ _ (fun k _ _ => by
      show wsum (fE T k (x :: L)) = _
      rw [fE_c]
      by_cases h : eA T k x.2.1 = true
      · rw [if_pos h, zb_t h, Int.one_mul]; rfl
      · rw [if_neg h, zb_f h, Int.zero_mul, Int.zero_add])
    rw [e, sumF_add, ← ih, sumF_mul, ← occ_eA]
    rfl
theorem mt_words {z : zS} (hz : okZ z) : mtS z = ocL z.T z.n z.S.1 := by
  have hT := hz.2.2.2.2.2.2
  rw [ocL_sum]
  unfold mtS
  exact sumF_cg _ _ (fun k _ h => by
    have h0 := hT.1
    show ((mN z.S.1 z.T k 6 1).length : Int) = _
    rw [mN_fE hT hz.1.2.2.2.1 hz.1.1 (by omega)])
theorem wm_words {z : zS} (hz : okZ z) : wmS z = owL z.T z.n z.S.1 := by
  have hT := hz.2.2.2.2.2.2
  rw [owL_sum]
  unfold wmS
  exact sumF_cg _ _ (fun k _ h => by
    have h0 := hT.1
    show wsum (mN z.S.1 z.T k 6 1) = _
    rw [mN_fE hT hz.1.2.2.2.1 hz.1.1 (by omega)])
/-- a position: whether a match ends there -/
theorem pos_ok {L : List zI} {T : Int → Int} {len i : Int} (hT : okT T len) (hs : srtL L) (ho : okIs L) (h0 : 0 ≤ i) (hi : i < len) : (((mN L T i 6 1).length : Int) = 0 ∧ loD L T i 6 = 0) ∨ (0 < ((mN L T i 6 1).length : Int) ∧ 0 < loD L T i 6 ∧ enT T (i + 1) (loD L T i 6).toNat ≠ -9999 ∧ cvB (fun e => loD L T e 6) i len 6 i = true) := by
  rw [mN_fE hT hs ho hi]
  rcases loD_ok hT hs ho hi 6 with ⟨a1, a2⟩ | ⟨x, x1, x2, x3, x4, x5, x6⟩
  · left
    refine ⟨?_, a1⟩
    have : fE T i L = [] := by
      unfold fE
      rw [List.filter_eq_nil_iff]
      intro y hy h
      have := a2 y hy h
      have := wd_nd (ho y hy).2.2.1
      omega
    rw [this]
    rfl
  · right
    have hm : x ∈ fE T i L := List.mem_filter.mpr ⟨x1, x2⟩
    have := List.length_pos_of_mem hm
    refine ⟨by omega, x4, ?_, ?_⟩
    · rw [← x3]
      unfold eA at x2
      rw [decide_eq_true_eq] at x2
      rw [x2]
      have := wd_pos (ho x x1).2.2.1
      omega
    · rw [cvB_iff]
      exact ⟨i, Int.le_refl _, by omega, hi, by show i - i < loD L T i 6; omega⟩
/-- hits before a position -/
def cntF (e : Int → Bool) : Nat → Int → Int
  | 0, _ => 0
  | m + 1, i => (if e i = true then 1 else 0) + cntF e m (i + 1)
theorem cntF_b (e : Int → Bool) : ∀ m i, 0 ≤ cntF e m i ∧ cntF e m i ≤ m
  | 0, _ => by simp [cntF]
  | m + 1, i => by have := cntF_b e m (i + 1); unfold cntF; split <;> omega
theorem cntF_r {e : Int → Bool} : ∀ (m : Nat) (i : Int), cntF e (m + 1) i = cntF e m i + (if e (i + m) = true then 1 else 0)
  | 0, i => by
    show (if e i = true then 1 else 0) + 0 = 0 + (if e (i + ((0 : Nat) : Int)) = true then 1 else 0)
    rw [show i + ((0 : Nat) : Int) = i by omega]
    omega
  | m + 1, i => by
    have ih := cntF_r (e := e) m (i + 1)
    rw [show i + 1 + (m : Int) = i + ((m + 1 : Nat) : Int) by omega] at ih
    show (if e i = true then 1 else 0) + cntF e (m + 1) (i + 1) = (if e i = true then 1 else 0) + cntF e m (i + 1) + _
    rw [ih]
    omega
theorem fiF_sk {e : Int → Bool} : ∀ (m j : Nat) (i l : Int), 0 ≤ l → fiF e (m + j) i (cntF e m i + l) = fiF e j (i + m) l
  | 0, j, i, l, _ => by
    show fiF e (0 + j) i (0 + l) = _
    rw [Nat.zero_add, Int.zero_add, show i + ((0 : Nat) : Int) = i by omega]
  | m + 1, j, i, l, hl => by
    have hb := cntF_b e m (i + 1)
    have ih := fiF_sk (e := e) m j (i + 1) l hl
    rw [show i + 1 + (m : Int) = i + ((m + 1 : Nat) : Int) by omega] at ih
    rw [← ih, show m + 1 + j = (m + j) + 1 by omega]
    rw [show cntF e (m + 1) i = (if e i = true then 1 else 0) + cntF e m (i + 1) from rfl]
    by_cases h : e i = true
    · rw [if_pos h]
      show (if e i = true then (if 1 + cntF e m (i + 1) + l = 0 then i else fiF e (m + j) (i + 1) (1 + cntF e m (i + 1) + l - 1)) else _) = _
      rw [if_pos h, if_neg (by omega), show 1 + cntF e m (i + 1) + l - 1 = cntF e m (i + 1) + l by omega]
    · rw [if_neg h]
      show (if e i = true then _ else fiF e (m + j) (i + 1) (0 + cntF e m (i + 1) + l)) = _
      rw [if_neg h, Int.zero_add]
/-- divisions -/
def dvZ (p : (Int → Int) × (Int → Int)) (r : Int) : Prop := ∀ k, 0 ≤ k → k ≤ r → 0 ≤ p.1 k ∧ 0 ≤ p.2 k ∧ (p.1 k = 0 → p.2 k = 0)
theorem dvX_Z {p : (Int → Int) × (Int → Int)} {r : Int} {x : zI} (h : dvZ p r) (hn : 1 ≤ nd x.2.1 ∧ nd x.2.1 ≤ r) : dvZ (dvX p.1 p.2 r x) r := by
  unfold dvX
  split
  next c =>
    intro k h0 h1
    by_cases hk : k = r
    · subst hk
      simp only [zup_s]
      have a := h k h0 h1
      have b := h (k - nd x.2.1) (by omega) (by omega)
      omega
    · simp only [zup_n hk]
      exact h k h0 h1
  next => exact h
theorem dvL_Z {r : Int} : ∀ {l : List zI} {p : (Int → Int) × (Int → Int)}, dvZ p r → (∀ x ∈ l, 1 ≤ nd x.2.1 ∧ nd x.2.1 ≤ r) → dvZ (dvL r l p) r
  | [], _, h, _ => h
  | x :: l, p, h, hx => dvL_Z (l := l) (dvX_Z h (hx x List.mem_cons_self)) (fun y hy => hx y (List.mem_cons_of_mem _ hy))
theorem dvR_Z {M : Int → List zI} {len : Int} (hM : ∀ i, 0 ≤ i → i < len → ∀ x ∈ M i, 1 ≤ nd x.2.1 ∧ nd x.2.1 ≤ i + 1) : ∀ n : Nat, (n : Int) ≤ len → dvZ (dvR M n) n
  | 0, _ => fun k h0 h1 => ⟨Int.le_refl _, Int.le_refl _, fun _ => rfl⟩
  | n + 1, hn => by
    have ih := dvR_Z hM n (by omega)
    unfold dvR
    refine dvL_Z (fun k h0 h1 => ?_) (fun x hx => by have := hM n (by omega) (by omega) x hx; omega)
    by_cases hk : k = ((n + 1 : Nat) : Int)
    · subst hk
      simp only [zup_s]
      exact ih n (by omega) (Int.le_refl _)
    · simp only [zup_n hk]
      exact ih k h0 (by omega)
theorem div_ok {z : zS} (hz : okZ z) : 0 ≤ ttS z 4 ∧ 0 ≤ ttS z 5 ∧ (ttS z 4 = 0 → ttS z 5 = 0) := by
  have hT := hz.2.2.2.2.2.2
  have h0 := hT.1
  have key := dvR_Z (M := fun i => mN z.S.1 z.T i 6 1) (len := z.n) (fun i h0 hi x hx => by
    have h1 := (mN_mem hT hz.1.2.2.2.1 hz.1.1 hi 6 1 x).mp hx
    have h2 := h1.2.1
    have h3 := wd_pos (hz.1.1 x h1.1).2.2.1
    unfold eA at h2
    rw [decide_eq_true_eq] at h2
    unfold enT at h2
    split at h2
    · omega
    · omega) z.n.toNat (by omega)
  have := key z.n h0 (by omega)
  exact this
theorem hvR_nn {f : Int → Int} : ∀ (j : Nat) (i b bw : Int), 0 ≤ i → 0 ≤ b → 0 ≤ hvR f j i b bw
  | 0, _, _, _, _, h => h
  | j + 1, i, b, bw, hi, h => by
    unfold hvR
    split
    · exact hvR_nn j (i + 1) i _ (by omega) hi
    · exact hvR_nn j (i + 1) b bw (by omega) h
theorem hv_ok {z : zS} (hz : okZ z) : ttS z 3 = -9999 ↔ z.n = 0 := by
  have h0 := hz.2.2.2.2.2.2.1
  have e : ttS z 3 = hvR (fun i => wsum (mN z.S.1 z.T i 6 1)) z.n.toNat 0 (-9999) 0 := rfl
  rw [e]
  cases hn : z.n.toNat with
  | zero => exact ⟨fun _ => by omega, fun _ => rfl⟩
  | succ j =>
    constructor
    · intro h
      unfold hvR at h
      rw [if_pos (Or.inl rfl)] at h
      have := hvR_nn (f := fun i => wsum (mN z.S.1 z.T i 6 1)) j (0 + 1) 0 (wsum (mN z.S.1 z.T 0 6 1)) (by omega) (Int.le_refl _)
      omega
    · intro h; omega
