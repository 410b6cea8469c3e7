/-! NO NUMBER MISSED -/
def okY (f : FP.Core.Fmt) : FP.Core.Datum → Prop
  | .nan => False
  | .inf _ => True
  | .fin _ c q => c < 2 ^ f.p ∧ q ≤ f.qmax
theorem okF_settle {f : FP.Core.Fmt} (h : f.tails < 2 ^ f.p) (s : Bool) (c : Nat) (q : Int) : okY f (FP.Core.settle f s c q) := by
  unfold FP.Core.settle FP.Core.bound
  split
  · split
    · exact ⟨by assumption, by assumption⟩
    · exact trivial
  · split
    · exact ⟨h, by assumption⟩
    · exact trivial
theorem okF_ratio {f : FP.Core.Fmt} (h : f.tails < 2 ^ f.p) (hq : f.qmin ≤ f.qmax) (s : Bool) (n d : Nat) (e : Int) : okY f (FP.Core.roundRatio f s n d e) := by
  unfold FP.Core.roundRatio
  split
  · exact ⟨Nat.lt_of_le_of_lt (Nat.zero_le _) h, hq⟩
  · exact okF_settle h _ _ _
theorem okF_round {f : FP.Core.Fmt} (h : f.tails < 2 ^ f.p) (hq : f.qmin ≤ f.qmax) : ∀ d, d ≠ .nan → okY f (FP.Core.round f d)
  | .nan, h => absurd rfl h
  | .inf _, _ => trivial
  | .fin _ _ _, _ => okF_ratio h hq _ _ _ _
theorem enc32 : ∀ d, okY FP.Core.b32 d → FP.Core.encode FP.Core.b32 d < 4294967296 ∧ FP.Core.encode FP.Core.b32 d % 2147483648 ≤ 2139095040
  | .nan, h => h.elim
  | .inf s, _ => by cases s <;> decide
  | .fin s c q, h => by
    obtain ⟨h1, h2⟩ := h
    have h1 : c < 16777216 := h1
    have h2 : q ≤ 104 := h2
    have e1 : FP.Core.b32.tails = 8388608 := by decide
    have e2 : FP.Core.b32.exps = 256 := by decide
    have e3 : FP.Core.b32.qmin = -149 := by decide
    unfold FP.Core.encode FP.Core.assemble
    rw [e1, e2, e3]
    cases s
    · simp only [Bool.toNat_false]
      split <;> omega
    · simp only [Bool.toNat_true]
      split <;> omega
theorem enc64 : ∀ d, okY FP.Core.b64 d → FP.Core.encode FP.Core.b64 d < 18446744073709551616 ∧ FP.Core.encode FP.Core.b64 d % 9223372036854775808 ≤ 9218868437227405312
  | .nan, h => h.elim
  | .inf s, _ => by cases s <;> decide
  | .fin s c q, h => by
    obtain ⟨h1, h2⟩ := h
    have h1 : c < 9007199254740992 := h1
    have h2 : q ≤ 971 := h2
    have e1 : FP.Core.b64.tails = 4503599627370496 := by decide
    have e2 : FP.Core.b64.exps = 2048 := by decide
    have e3 : FP.Core.b64.qmin = -1074 := by decide
    unfold FP.Core.encode FP.Core.assemble
    rw [e1, e2, e3]
    cases s
    · simp only [Bool.toNat_false]
      split <;> omega
    · simp only [Bool.toNat_true]
      split <;> omega
theorem dec32 {n : Nat} (h : n % 2147483648 ≤ 2139095040) : FP.Core.decode FP.Core.b32 n ≠ .nan := by
  have e1 : FP.Core.b32.tails = 8388608 := by decide
  have e2 : FP.Core.b32.exps = 256 := by decide
  unfold FP.Core.decode FP.Core.fieldE FP.Core.fieldT
  rw [e1, e2]
  split
  · split
    · intro q; cases q
    · omega
  · split <;> (intro q; cases q)
theorem n32_of {n : Nat} (h1 : n < 4294967296) (h2 : n % 2147483648 ≤ 2139095040) : n32 (UInt32.ofNat n) = true := by
  unfold n32
  rw [decide_eq_true_eq, UInt32.le_iff_toNat_le, UInt32.toNat_and]
  rw [UInt32.toNat_ofNat_of_lt' (by exact h1)]
  show n &&& (2 ^ 31 - 1) ≤ _
  rw [Nat.and_two_pow_sub_one_eq_mod]
  exact h2
theorem n64_of {n : Nat} (h1 : n < 18446744073709551616) (h2 : n % 9223372036854775808 ≤ 9218868437227405312) : n64 (UInt64.ofNat n) = true := by
  unfold n64
  rw [decide_eq_true_eq, UInt64.le_iff_toNat_le, UInt64.toNat_and]
  rw [UInt64.toNat_ofNat_of_lt' (by exact h1)]
  show n &&& (2 ^ 63 - 1) ≤ _
  rw [Nat.and_two_pow_sub_one_eq_mod]
  exact h2
theorem n32_to {x : UInt32} (h : n32 x = true) : x.toNat % 2147483648 ≤ 2139095040 := by
  unfold n32 at h
  rw [decide_eq_true_eq, UInt32.le_iff_toNat_le, UInt32.toNat_and] at h
  have h : x.toNat &&& (2 ^ 31 - 1) ≤ 2139095040 := h
  rw [Nat.and_two_pow_sub_one_eq_mod] at h
  exact h
theorem f2d_ok {x : UInt32} (h : n32 x = true) : n64 (FP.f2d x) = true := by
  have hn := dec32 (n32_to h)
  unfold FP.f2d
  have e : FP.Core.fIsNaN x = false := by
    unfold FP.Core.fIsNaN FP.Core.isNaN
    exact decide_eq_false hn
  rw [e]
  simp only [Bool.false_eq_true, if_false]
  unfold FP.Core.f2d FP.Core.convert
  obtain ⟨a, b⟩ := enc64 _ (okF_round (f := FP.Core.b64) (by decide) (by decide) _ hn)
  exact n64_of a b
/-- a positive count as a float is no zero -/
def nzF (n : Nat) : Bool := match FP.Core.decode FP.Core.b32 (FP.i2f (Int32.ofInt n)).toNat with
  | .fin _ d _ => decide (n = 0 ∨ d ≠ 0)
  | _ => false
theorem nzF_ok : ∀ n, n < 361 → nzF n = true := by decide +kernel
theorem fdiv_ok {a : Int} {b : Int} (h1 : 0 < b) (h2 : b ≤ 360) : n32 (FP.fdiv (FP.i2f (Int32.ofInt a)) (FP.i2f (Int32.ofInt b))) = true := by
  have hb := nzF_ok b.toNat (by omega)
  unfold nzF at hb
  rw [show ((b.toNat : Nat) : Int) = b by omega] at hb
  have ha : FP.Core.decode FP.Core.b32 (FP.i2f (Int32.ofInt a)).toNat ≠ .nan := by
    obtain ⟨x1, x2⟩ := enc32 _ (okF_round (f := FP.Core.b32) (by decide) (by decide) (FP.Core.ofInt (Int32.ofInt a).toInt) (by intro q; cases q))
    have e : (FP.i2f (Int32.ofInt a)).toNat = FP.Core.encode FP.Core.b32 (FP.Core.round FP.Core.b32 (FP.Core.ofInt (Int32.ofInt a).toInt)) := UInt32.toNat_ofNat_of_lt' x1
    rw [e]
    exact dec32 x2
  unfold FP.fdiv FP.Core.fdiv FP.Core.div
  generalize FP.Core.decode FP.Core.b32 (FP.i2f (Int32.ofInt a)).toNat = x at ha ⊢
  generalize FP.Core.decode FP.Core.b32 (FP.i2f (Int32.ofInt b)).toNat = y at hb ⊢
  have hq : okY FP.Core.b32 (FP.Core.quotient FP.Core.b32 x y) := by
    cases y with
    | nan => cases hb
    | inf s => cases hb
    | fin t d r =>
      have hd : d ≠ 0 := by
        have := of_decide_eq_true hb
        omega
      cases x with
      | nan => exact absurd rfl ha
      | inf s => exact trivial
      | fin s c q =>
        show okY FP.Core.b32 (if d = 0 then (if c = 0 then .nan else .inf (s != t)) else FP.Core.roundRatio FP.Core.b32 (s != t) c d (q - r))
        rw [if_neg hd]
        exact okF_ratio (by decide) (by decide) _ _ _ _
  obtain ⟨x1, x2⟩ := enc32 _ hq
  exact n32_of x1 x2
