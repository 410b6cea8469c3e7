/-! SMALL HELPS FOR THE SPECS -/
theorem zite {c P : Prop} [Decidable c] : (if c then P else False) = (c ∧ P) := by
  by_cases h : c <;> simp [h]
theorem zwr_id {z : Int} (h : -2147483648 ≤ z ∧ z ≤ 2147483647) : zwr z = z := by unfold zwr; omega
theorem zwr_in {z : Int} (h : inR z) : zwr z = z := zwr_id h
theorem zwr_wl (a b : Int) : zwr (zwr a + b) = zwr (a + b) := by unfold zwr; omega
theorem zwr_wr (a b : Int) : zwr (a + zwr b) = zwr (a + b) := by unfold zwr; omega
theorem zup_s {α : Type} (f : Int → α) (i : Int) (x : α) : zup f i x i = x := if_pos rfl
theorem zup_n {α : Type} {f : Int → α} {i j : Int} {x : α} (h : j ≠ i) : zup f i x j = f j := if_neg h
theorem zand {P X : Prop} (h : P) : (P ∧ X) = X := by simp [h]
/-- a truth as the machine has it -/
def zb (p : Prop) [Decidable p] : Int := if p then 1 else 0
theorem zb_t {p : Prop} [Decidable p] (h : p) : zb p = 1 := if_pos h
theorem zb_f {p : Prop} [Decidable p] (h : ¬ p) : zb p = 0 := if_neg h
theorem zrc {h : zH} {k c : Nat} {fs as : List zV} (hk : zgt h k = .inl (c, fs)) : zrecv h c (.inr (.inl (some k)) :: as) = true := by
  unfold zrecv
  dsimp only
  rw [hk]
  simp
theorem zaH_1 (h : zH) (n : Nat) (c : zC) : (zaH h n c).1 = h.1 + 1 := rfl
theorem zaH_2 (h : zH) (n : Nat) (c : zC) : (zaH h n c).2.1 = h.2.1 + n := rfl
theorem zuH_1 (h : zH) (k : Nat) (c : zC) : (zuH h k c).1 = h.1 := rfl
theorem zuH_2 (h : zH) (k : Nat) (c : zC) : (zuH h k c).2.1 = h.2.1 := rfl
