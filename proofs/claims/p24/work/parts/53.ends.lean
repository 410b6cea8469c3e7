/-! WORDS THAT END AT A POSITION -/
def eA (T : Int → Int) (i c : Int) : Bool := decide (enT T (i + 1) (nd c).toNat = c)
theorem eA_0 {T : Int → Int} {i : Int} : eA T i 0 = true := by
  unfold eA
  rw [nd_0 (Int.le_refl _)]
  unfold enT
  simp [tc]
theorem eA_p {T : Int → Int} {len i c : Int} (hT : okT T len) (hi : i < len) (hc : 0 < c) : eA T i c = true ↔ 0 ≤ i ∧ T i = c % 10 - 1 ∧ eA T (i - 1) (c / 10) = true := by
  have hn := nd_nn (c / 10)
  unfold eA
  rw [decide_eq_true_eq, decide_eq_true_eq, nd_p hc]
  generalize hm : (nd (c / 10)).toNat = m
  rw [show (nd (c / 10) + 1).toNat = m + 1 by omega, show i - 1 + 1 = i by omega]
  have hnd : nd (c / 10) = m := by omega
  unfold enT
  constructor
  · intro h
    by_cases q : i + 1 < ((m + 1 : Nat) : Int)
    · rw [if_pos q] at h; omega
    · rw [if_neg q] at h
      have hh : tc T (i + 1 - 1) m * 10 + T (i + 1 - 1) + 1 = c := h
      rw [show i + 1 - 1 = i by omega] at hh
      have ht := hT.2.2 i (by omega) hi
      rw [if_neg (by omega)]
      omega
  · rintro ⟨h0, h1, h2⟩
    by_cases q : i < (m : Int)
    · rw [if_pos q] at h2
      have : m = 0 := by
        have : nd (c / 10) ≤ 0 := by rw [← h2, nd_0 (Int.le_refl _)]; exact Int.le_refl _
        omega
      omega
    · rw [if_neg q] at h2
      rw [if_neg (by omega)]
      show tc T (i + 1 - 1) m * 10 + T (i + 1 - 1) + 1 = c
      rw [show i + 1 - 1 = i by omega, h2, h1]
      omega
/-- the matches are the live words that end there -/
def fE (T : Int → Int) (i : Int) (L : List zI) : List zI := L.filter (fun x => eA T i x.2.1)
theorem pw_eq {L1 L2 : List zI} (h1 : srtL L1) (h2 : srtL L2) (hm : ∀ x, x ∈ L1 ↔ x ∈ L2) : L1 = L2 := by
  have n1 : L1.Nodup := h1.2.imp (fun h e => by rw [e] at h; omega)
  have n2 : L2.Nodup := h2.2.imp (fun h e => by rw [e] at h; omega)
  exact srt_eq (srtL_I h1) (srtL_I h2) ((List.perm_ext_iff_of_nodup n1 n2).mpr hm)
theorem fn_in {c : Int} {x : zI} : ∀ {L : List zI}, srtL L → x ∈ L → x.2.1 = c → fn c L = some x
  | [], _, h, _ => by cases h
  | y :: L, hs, h, e => by
    obtain ⟨h1, h2⟩ := hs
    obtain ⟨a1, a2⟩ := List.pairwise_cons.mp h2
    unfold fn
    rcases List.mem_cons.mp h with rfl | h
    · rw [if_pos e]
    · have := a1 x h
      rw [if_neg (by omega)]
      exact fn_in ⟨fun z hz => h1 z (by simp [hz]), a2⟩ h e
theorem mN_mem {L : List zI} {T : Int → Int} {len i : Int} (hT : okT T len) (hs : srtL L) (ho : okIs L) (hi : i < len) : ∀ (j n : Nat) (x : zI), x ∈ mN L T i j n ↔ x ∈ L ∧ eA T i x.2.1 = true ∧ (n : Int) ≤ nd x.2.1 ∧ nd x.2.1 < n + j
  | 0, n, x => by simp only [mN]; constructor; exact fun h => (by cases h); rintro ⟨-, -, a, b⟩; omega
  | j + 1, n, x => by
    have ih := mN_mem hT hs ho hi j (n + 1) x
    have key : x ∈ L → eA T i x.2.1 = true → nd x.2.1 = n → fn (enT T (i + 1) n) L = some x := by
      intro h1 h2 h3
      unfold eA at h2
      rw [decide_eq_true_eq, h3, Int.toNat_natCast] at h2
      exact fn_in hs h1 h2.symm
    have key2 : ∀ y, fn (enT T (i + 1) n) L = some y → y ∈ L ∧ eA T i y.2.1 = true ∧ nd y.2.1 = n := by
      intro y hy
      obtain ⟨b1, b2⟩ := fn_nd hT (by omega) ho hy
      obtain ⟨c1, c2⟩ := fn_some hy
      refine ⟨c1, ?_, b2⟩
      unfold eA
      rw [decide_eq_true_eq, b2, Int.toNat_natCast]
      exact c2.symm
    unfold mN
    cases hf : fn (enT T (i + 1) n) L with
    | none =>
      dsimp only
      rw [ih]
      constructor
      · rintro ⟨a, b, c, d⟩; exact ⟨a, b, by omega, by omega⟩
      · rintro ⟨a, b, c, d⟩
        refine ⟨a, b, ?_, by omega⟩
        rcases Int.lt_or_le (n : Int) (nd x.2.1) with q | q
        · omega
        · rw [key a b (by omega)] at hf; cases hf
    | some y =>
      dsimp only
      rw [List.mem_cons, ih]
      obtain ⟨y1, y2, y3⟩ := key2 y hf
      constructor
      · rintro (rfl | ⟨a, b, c, d⟩)
        · exact ⟨y1, y2, by omega, by omega⟩
        · exact ⟨a, b, by omega, by omega⟩
      · rintro ⟨a, b, c, d⟩
        rcases Int.lt_or_le (n : Int) (nd x.2.1) with q | q
        · exact Or.inr ⟨a, b, by omega, by omega⟩
        · have e := key a b (by omega)
          rw [hf] at e
          cases e
          exact Or.inl rfl
theorem nd_mono {c d : Int} (h : c ≤ d) : nd c ≤ nd d := by
  rcases Int.lt_or_le 0 c with q | q
  · have h1 := nd_pos q
    have h2 : ((nd c).toNat - 1 : Nat) < nd c := by omega
    have h3 := (tp_le (c := c) ((nd c).toNat - 1)).mpr (by omega)
    have h4 := (tp_le (c := d) ((nd c).toNat - 1)).mp (by omega)
    omega
  · rw [nd_0 q]; exact nd_nn d
theorem mN_srt {L : List zI} {T : Int → Int} {len i : Int} (hT : okT T len) (hs : srtL L) (ho : okIs L) (hi : i < len) : ∀ (j n : Nat), srtL (mN L T i j n)
  | 0, n => ⟨fun x hx => (by cases hx), List.Pairwise.nil⟩
  | j + 1, n => by
    have ih := mN_srt hT hs ho hi j (n + 1)
    unfold mN
    split
    next x hf =>
      obtain ⟨c1, c2⟩ := fn_some hf
      obtain ⟨b1, b2⟩ := fn_nd hT (by omega) ho hf
      refine ⟨fun y hy => ?_, List.pairwise_cons.mpr ⟨fun y hy => ?_, ih.2⟩⟩
      · rcases List.mem_cons.mp hy with rfl | hy
        · exact hs.1 y c1
        · exact ih.1 y hy
      · obtain ⟨-, -, h3, -⟩ := (mN_mem hT hs ho hi j (n + 1) y).mp hy
        rcases Int.lt_or_le x.2.1 y.2.1 with q | q
        · exact q
        · have := nd_mono q; omega
    next => exact ih
theorem mN_fE {L : List zI} {T : Int → Int} {len i : Int} (hT : okT T len) (hs : srtL L) (ho : okIs L) (hi : i < len) : mN L T i 6 1 = fE T i L := by
  refine pw_eq (mN_srt hT hs ho hi 6 1) ⟨fun x hx => hs.1 x (List.mem_filter.mp hx).1, List.Pairwise.filter _ hs.2⟩ (fun x => ?_)
  rw [mN_mem hT hs ho hi]
  unfold fE
  rw [List.mem_filter]
  constructor
  · rintro ⟨a, b, -, -⟩; exact ⟨a, b⟩
  · rintro ⟨a, b⟩
    have := wd_nd (ho x a).2.2.1
    exact ⟨a, b, by omega, by omega⟩
/-- the longest word that ends there, as the model finds it -/
def lgB (T : Int → Int) (i : Int) : List zI → Int → Int
  | [], b => b
  | x :: L, b => lgB T i L (if eA T i x.2.1 = true ∧ (b = -9999 ∨ b < x.2.1) then x.2.1 else b)
theorem lgB_ok {T : Int → Int} {i : Int} : ∀ (L A : List zI) (b : Int), (∀ x ∈ A ++ L, 0 < x.2.1) → ((b = -9999 ∧ ∀ x ∈ A, eA T i x.2.1 = false) ∨ (∃ x ∈ A, eA T i x.2.1 = true ∧ b = x.2.1 ∧ ∀ y ∈ A, eA T i y.2.1 = true → y.2.1 ≤ b)) → ((lgB T i L b = -9999 ∧ ∀ x ∈ A ++ L, eA T i x.2.1 = false) ∨ (∃ x ∈ A ++ L, eA T i x.2.1 = true ∧ lgB T i L b = x.2.1 ∧ ∀ y ∈ A ++ L, eA T i y.2.1 = true → y.2.1 ≤ lgB T i L b))
  | [], A, b, _, h => by rw [List.append_nil]; exact h
  | x :: L, A, b, hp, h => by
    have hx : 0 < x.2.1 := hp x (by simp)
    unfold lgB
    rw [show A ++ x :: L = (A ++ [x]) ++ L by simp] at hp ⊢
    refine lgB_ok L (A ++ [x]) _ hp ?_
    by_cases c1 : eA T i x.2.1 = true
    · right
      rcases h with ⟨h1, h2⟩ | ⟨y, y1, y2, y3, y4⟩
      · rw [if_pos ⟨c1, Or.inl h1⟩]
        refine ⟨x, by simp, c1, rfl, fun w hw hw2 => ?_⟩
        rcases List.mem_append.mp hw with q | q
        · rw [h2 w q] at hw2; cases hw2
        · rw [List.mem_singleton.mp q]; exact Int.le_refl _
      · by_cases c2 : b < x.2.1
        · rw [if_pos ⟨c1, Or.inr c2⟩]
          refine ⟨x, by simp, c1, rfl, fun w hw hw2 => ?_⟩
          rcases List.mem_append.mp hw with q | q
          · have := y4 w q hw2; omega
          · rw [List.mem_singleton.mp q]; exact Int.le_refl _
        · have hy : 0 < y.2.1 := hp y (by simp [y1])
          rw [if_neg (by rintro ⟨-, q | q⟩ <;> omega)]
          refine ⟨y, by simp [y1], y2, y3, fun w hw hw2 => ?_⟩
          rcases List.mem_append.mp hw with q | q
          · exact y4 w q hw2
          · rw [List.mem_singleton.mp q]; omega
    · rw [if_neg (fun q => c1 q.1)]
      rcases h with ⟨h1, h2⟩ | ⟨y, y1, y2, y3, y4⟩
      · left
        refine ⟨h1, fun w hw => ?_⟩
        rcases List.mem_append.mp hw with q | q
        · exact h2 w q
        · rw [List.mem_singleton.mp q]; exact Bool.eq_false_iff.mpr c1
      · right
        refine ⟨y, by simp [y1], y2, y3, fun w hw hw2 => ?_⟩
        rcases List.mem_append.mp hw with q | q
        · exact y4 w q hw2
        · rw [List.mem_singleton.mp q] at hw2; exact absurd hw2 c1
theorem loD_ok {L : List zI} {T : Int → Int} {len i : Int} (hT : okT T len) (hs : srtL L) (ho : okIs L) (hi : i < len) : ∀ (n : Nat), (loD L T i n = 0 ∧ ∀ x ∈ L, eA T i x.2.1 = true → (n : Int) < nd x.2.1) ∨ (∃ x ∈ L, eA T i x.2.1 = true ∧ nd x.2.1 = loD L T i n ∧ 0 < loD L T i n ∧ loD L T i n ≤ n ∧ ∀ y ∈ L, eA T i y.2.1 = true → nd y.2.1 ≤ loD L T i n ∨ (n : Int) < nd y.2.1)
  | 0 => Or.inl ⟨rfl, fun x hx _ => (wd_nd (ho x hx).2.2.1).1⟩
  | n + 1 => by
    unfold loD
    cases hf : fn (enT T (i + 1) (n + 1)) L with
    | none =>
      rw [if_pos rfl]
      have key : ∀ y ∈ L, eA T i y.2.1 = true → nd y.2.1 ≠ ((n + 1 : Nat) : Int) := by
        intro y hy h2 h3
        unfold eA at h2
        rw [decide_eq_true_eq, h3, Int.toNat_natCast] at h2
        rw [fn_in hs hy h2.symm] at hf
        cases hf
      rcases loD_ok hT hs ho hi n with ⟨h1, h2⟩ | ⟨x, x1, x2, x3, x4, x5, x6⟩
      · left
        refine ⟨h1, fun x hx he => ?_⟩
        have := h2 x hx he
        have := key x hx he
        omega
      · right
        refine ⟨x, x1, x2, x3, x4, by omega, fun y hy he => ?_⟩
        have := x6 y hy he
        have := key y hy he
        omega
    | some x =>
      rw [if_neg (by intro q; cases q)]
      obtain ⟨b1, b2⟩ := fn_nd hT (by omega) ho hf
      obtain ⟨c1, c2⟩ := fn_some hf
      right
      refine ⟨x, c1, ?_, b2, by omega, Int.le_refl _, fun y _ _ => by omega⟩
      unfold eA
      rw [decide_eq_true_eq, b2, Int.toNat_natCast]
      exact c2.symm
/-- the class's and the model's longest word -/
theorem lo_lg {L : List zI} {T : Int → Int} {len i : Int} (hT : okT T len) (hs : srtL L) (ho : okIs L) (hi : i < len) : lgB T i L (-9999) = (if loD L T i 6 = 0 then -9999 else enT T (i + 1) (loD L T i 6).toNat) ∧ (loD L T i 6 = 0 ↔ lgB T i L (-9999) = -9999) ∧ (loD L T i 6 ≠ 0 → nd (lgB T i L (-9999)) = loD L T i 6) ∧ lgB T i L (-9999) ≤ 444444 := by
  have h1 := lgB_ok (T := T) (i := i) L [] (-9999) (fun x hx => wd_pos (ho x (by simpa using hx)).2.2.1) (Or.inl ⟨rfl, fun x hx => (by cases hx)⟩)
  have h2 := loD_ok hT hs ho hi 6
  rw [List.nil_append] at h1
  rcases h2 with ⟨a1, a2⟩ | ⟨x, x1, x2, x3, x4, x5, x6⟩
  · rcases h1 with ⟨b1, b2⟩ | ⟨y, y1, y2, y3, y4⟩
    · rw [a1, b1]
      simp
    · have := a2 y y1 y2
      have := wd_nd (ho y y1).2.2.1
      omega
  · rcases h1 with ⟨b1, b2⟩ | ⟨y, y1, y2, y3, y4⟩
    · rw [b2 x x1] at x2; cases x2
    · have hyx : y.2.1 = x.2.1 := by
        have q1 := y4 x x1 x2
        have q2 := x6 y y1 y2
        have q3 := wd_nd (ho y y1).2.2.1
        have q4 : nd y.2.1 ≤ nd x.2.1 := by omega
        have q5 : nd x.2.1 ≤ nd y.2.1 := nd_mono (by omega)
        have e : nd x.2.1 = nd y.2.1 := by omega
        unfold eA at x2 y2
        rw [decide_eq_true_eq] at x2 y2
        rw [← x2, ← y2, e]
      have hpos := wd_pos (ho y y1).2.2.1
      have h4 := (ho y y1).2.2.1.2.1
      have e : lgB T i L (-9999) = x.2.1 := by rw [y3, hyx]
      rw [if_neg (by omega), e]
      refine ⟨?_, ⟨fun q => by omega, fun q => by omega⟩, fun _ => x3, by omega⟩
      unfold eA at x2
      rw [decide_eq_true_eq] at x2
      rw [← x3]
      exact x2.symm
/-- covered letters -/
theorem cvB_iff {lo : Int → Int} {i len : Int} : ∀ (j : Nat) (e : Int), cvB lo i len j e = true ↔ ∃ k, e ≤ k ∧ k < e + j ∧ k < len ∧ k - i < lo k
  | 0, e => by
    constructor
    · intro h; cases h
    · rintro ⟨k, a, b, -⟩; omega
  | j + 1, e => by
    have ih := cvB_iff (lo := lo) (i := i) (len := len) j (e + 1)
    unfold cvB
    by_cases c1 : e < len
    · rw [if_pos c1]
      by_cases c2 : e - i < lo e
      · rw [if_pos c2]
        exact ⟨fun _ => ⟨e, Int.le_refl _, by omega, c1, c2⟩, fun _ => rfl⟩
      · rw [if_neg c2, ih]
        constructor
        · rintro ⟨k, a, b, c, d⟩; exact ⟨k, by omega, by omega, c, d⟩
        · rintro ⟨k, a, b, c, d⟩
          by_cases q : k = e
          · subst q; exact absurd d c2
          · exact ⟨k, by omega, by omega, c, d⟩
    · rw [if_neg c1]
      constructor
      · intro h; cases h
      · rintro ⟨k, a, b, c, -⟩; omega
theorem cvB_6 {lo : Int → Int} {i len : Int} (h6 : ∀ k, lo k ≤ 6) (j : Nat) (hj : i + j = len) : cvB lo i len j i = cvB lo i len 6 i := by
  rw [Bool.eq_iff_iff, cvB_iff, cvB_iff]
  constructor
  · rintro ⟨k, a, b, c, d⟩; have := h6 k; exact ⟨k, a, by omega, c, d⟩
  · rintro ⟨k, a, b, c, d⟩; exact ⟨k, a, by omega, c, d⟩
theorem sumF_r {f : Int → Int} : ∀ (j : Nat) (i : Int), sumF f (j + 1) i = sumF f j i + f (i + j)
  | 0, i => by simp [sumF]
  | j + 1, i => by
    show f i + sumF f (j + 1) (i + 1) = (f i + sumF f j (i + 1)) + _
    rw [sumF_r j (i + 1), show i + 1 + (j : Int) = i + ((j + 1 : Nat) : Int) by omega]
    omega
theorem clR_sum {lo : Int → Int} {len : Int} (h0 : ∀ k, 0 ≤ lo k) (h6 : ∀ k, lo k ≤ 6) : ∀ (n : Nat) (a c : Int), (n : Int) ≤ len → (∀ m : Int, 1 ≤ m → (m ≤ a ↔ ∃ k, (n : Int) ≤ k ∧ k < len ∧ m ≤ lo k - (k - n))) → clR lo n a c = c + sumF (fun i => zb (cvB lo i len 6 i = true)) n 0
  | 0, a, c, _, _ => by simp [clR, sumF]
  | n + 1, a, c, hn, hm => by
    unfold clR
    rw [sumF_r, Int.zero_add]
    generalize ha' : (if a - 1 < lo n then lo n else a - 1) = a'
    have hm' : ∀ m : Int, 1 ≤ m → (m ≤ a' ↔ ∃ k, (n : Int) ≤ k ∧ k < len ∧ m ≤ lo k - (k - n)) := by
      intro m h1
      have h2 := hm (m + 1) (by omega)
      have h3 : m ≤ a' ↔ m + 1 ≤ a ∨ m ≤ lo n := by rw [← ha']; split <;> omega
      rw [h3, h2]
      constructor
      · rintro (⟨k, b1, b2, b3⟩ | q)
        · exact ⟨k, by omega, b2, by omega⟩
        · exact ⟨n, Int.le_refl _, by omega, by omega⟩
      · rintro ⟨k, b1, b2, b3⟩
        by_cases q : k = n
        · subst q; exact Or.inr (by omega)
        · exact Or.inl ⟨k, by omega, b2, by omega⟩
    rw [clR_sum h0 h6 n a' _ (by omega) hm']
    have key : 0 < a' ↔ cvB lo n len 6 n = true := by
      rw [cvB_iff]
      have := hm' 1 (Int.le_refl _)
      constructor
      · intro q
        obtain ⟨k, b1, b2, b3⟩ := this.mp (by omega)
        have := h6 k
        exact ⟨k, b1, by omega, b2, by omega⟩
      · rintro ⟨k, b1, b2, b3, b4⟩
        have := this.mpr ⟨k, b1, b3, by omega⟩
        omega
    by_cases q : 0 < a'
    · rw [if_pos q, zb_t (key.mp q)]; omega
    · rw [if_neg q, zb_f (fun r => q (key.mpr r))]; omega
theorem clR_0 {lo : Int → Int} {len : Int} (h0 : ∀ k, 0 ≤ lo k) (h6 : ∀ k, lo k ≤ 6) (hl : 0 ≤ len) : clR lo len.toNat 0 0 = sumF (fun i => zb (cvB lo i len 6 i = true)) len.toNat 0 := by
  rw [clR_sum (len := len) h0 h6 len.toNat 0 0 (by omega) (fun m hm => ⟨fun q => by omega, fun ⟨k, b1, b2, b3⟩ => by omega⟩), Int.zero_add]
/-- the heaviest position, as the model finds it -/
def hvM (f : Int → Int) : Nat → Int → Int → Int
  | 0, _, b => b
  | j + 1, i, b => hvM f j (i + 1) (if b = -9999 ∨ f b < f i then i else b)
theorem hv_eq {f : Int → Int} : ∀ (j : Nat) (i b bw : Int), 0 ≤ i → (b ≠ -9999 → bw = f b) → hvR f j i b bw = hvM f j i b
  | 0, _, _, _, _, _ => rfl
  | j + 1, i, b, bw, h0, h => by
    unfold hvR hvM
    by_cases c1 : b = -9999
    · rw [if_pos (Or.inl c1), if_pos (Or.inl c1)]
      exact hv_eq j (i + 1) i (f i) (by omega) (fun _ => rfl)
    · have e := h c1
      rw [e]
      by_cases c2 : f b < f i
      · rw [if_pos (Or.inr c2), if_pos (Or.inr c2)]
        exact hv_eq j (i + 1) i (f i) (by omega) (fun _ => rfl)
      · rw [if_neg (by rintro (q | q); exact c1 q; exact c2 q), if_neg (by rintro (q | q); exact c1 q; exact c2 q)]
        exact hv_eq j (i + 1) b (f b) (by omega) (fun _ => rfl)
theorem fE_len (T : Int → Int) (i : Int) (L : List zI) : ((fE T i L).length : Int) ≤ L.length := by
  have := List.length_filter_le (fun x : zI => eA T i x.2.1) L
  unfold fE
  omega
theorem fE_c {T : Int → Int} {i : Int} {x : zI} {L : List zI} : fE T i (x :: L) = if eA T i x.2.1 = true then x :: fE T i L else fE T i L := by
  unfold fE
  rw [List.filter_cons]
theorem fE_w {T : Int → Int} {i : Int} {L : List zI} (ho : okIs L) : -99 * (L.length : Int) ≤ wsum (fE T i L) ∧ wsum (fE T i L) ≤ 99 * L.length := by
  have h1 := wsum_b (L := fE T i L) (fun x hx => ho x (List.mem_filter.mp hx).1)
  have h2 := fE_len T i L
  omega
