/-! THE SMALL MACHINE: values, cells, heaps; 'zrun' runs the tables' program (01) with a fuel; 'wp' is what holds at its end -/
abbrev zV : Type := Int ⊕ (Option Nat) ⊕ UInt32 ⊕ UInt64 ⊕ Unit
abbrev aI (z : Int) : zV := Sum.inl z
abbrev aQ (r : Option Nat) : zV := Sum.inr (Sum.inl r)
abbrev aR (k : Nat) : zV := Sum.inr (Sum.inl (some k))
abbrev aN : zV := Sum.inr (Sum.inl none)
abbrev aF (b : UInt32) : zV := Sum.inr (Sum.inr (Sum.inl b))
abbrev aD (b : UInt64) : zV := Sum.inr (Sum.inr (Sum.inr (Sum.inl b)))
abbrev aS : zV := Sum.inr (Sum.inr (Sum.inr (Sum.inr ())))
abbrev zC : Type := (Nat × List zV) ⊕ (Nat × (Int → Int)) ⊕ (Nat × (Int → Option Nat))
abbrev cO (ci : Nat) (fs : List zV) : zC := Sum.inl (ci, fs)
abbrev cA (n : Nat) (f : Int → Int) : zC := Sum.inr (Sum.inl (n, f))
abbrev cQ (n : Nat) (g : Int → Option Nat) : zC := Sum.inr (Sum.inr (n, g))
/-- cells, slots in all, what the cells hold -/
abbrev zH : Type := Nat × Nat × (Nat → zC)
abbrev zL : Type := List (Option zV)
def zwr (z : Int) : Int := (z + 2147483648) % 4294967296 - 2147483648
def zup {α : Type} (f : Int → α) (i : Int) (x : α) : Int → α := fun j => if j = i then x else f j
def zgt (h : zH) (k : Nat) : zC := h.2.2 k
def zuH (h : zH) (k : Nat) (c : zC) : zH := (h.1, h.2.1, fun j => if j = k then c else h.2.2 j)
def okF (ci j : Nat) (v : zV) : Bool := match (fkt.getD ci []).getD j 9, v with
  | 0, .inl _ => true
  | 1, .inr (.inl _) => true
  | _, _ => false
def newF (ci : Nat) : List zV := (fkt.getD ci []).map (fun k => if k = 0 then aI 0 else aN)
def zaH (h : zH) (n : Nat) (c : zC) : zH := (h.1 + 1, h.2.1 + n, fun j => if j = h.1 then c else h.2.2 j)
section ZEX
variable {α : Type} (i : Nat) (ls : zL) (st : List zV) (h : zH) (nx : Nat → zL → List zV → zH → α) (cl : Nat → List zV → List zV → α) (rt : Option zV → α) (bad : α)
def x_iload (a : Nat) : α := match ls[a]? with
  | some (some (.inl z)) => nx (i + 1) ls (.inl z :: st) h
  | _ => bad
def x_aload (a : Nat) : α := match ls[a]? with
  | some (some (.inr (.inl r))) => nx (i + 1) ls (.inr (.inl r) :: st) h
  | some (some (.inr (.inr (.inr (.inr ()))))) => nx (i + 1) ls (.inr (.inr (.inr (.inr ()))) :: st) h
  | _ => bad
def x_istore (a : Nat) : α := match st with
  | .inl z :: st' => nx (i + 1) (ls.set a (some (.inl z))) st' h
  | _ => bad
def x_astore (a : Nat) : α := match st with
  | .inr (.inl r) :: st' => nx (i + 1) (ls.set a (some (.inr (.inl r)))) st' h
  | _ => bad
def x_iinc (a : Nat) (z : Int) : α := match ls[a]? with
  | some (some (.inl x)) => nx (i + 1) (ls.set a (some (.inl (zwr (x + z))))) st h
  | _ => bad
def x_bin (f : Int → Int → Int) : α := match st with
  | .inl y :: .inl x :: st' => nx (i + 1) ls (.inl (f x y) :: st') h
  | _ => bad
def x_binS (f : Int → Int → Int) : α := match st with
  | .inl y :: .inl x :: st' => if st'.length ≤ 4 then nx (i + 1) ls (.inl (f x y) :: st') h else bad
  | _ => bad
def x_binC (p : Int → Int → Prop) [∀ x y, Decidable (p x y)] (f : Int → Int → Int) : α := match st with
  | .inl y :: .inl x :: st' => if p x y then nx (i + 1) ls (.inl (f x y) :: st') h else bad
  | _ => bad
def x_if (p : Int → Prop) [∀ x, Decidable (p x)] (t : Nat) : α := match st with
  | .inl x :: st' => if p x then nx t ls st' h else nx (i + 1) ls st' h
  | _ => bad
def x_icmp (p : Int → Int → Prop) [∀ x y, Decidable (p x y)] (t : Nat) : α := match st with
  | .inl y :: .inl x :: st' => if p x y then nx t ls st' h else nx (i + 1) ls st' h
  | _ => bad
def getK (h : zH) (k ci j : Nat) (f : zV → α) (bad : α) : α := match zgt h k with
  | .inl (c, fs) => if c = ci then (match fs[j]? with | some v => f v | none => bad) else bad
  | _ => bad
def x_getf (ci j : Nat) : α := match st with
  | .inr (.inl (some k)) :: st' => getK h k ci j (fun v => nx (i + 1) ls (v :: st') h) bad
  | _ => bad
def putK (h : zH) (k ci j : Nat) (v : zV) (f : zH → α) (bad : α) : α := match zgt h k with
  | .inl (c, fs) => if c = ci then f (zuH h k (.inl (c, fs.set j v))) else bad
  | _ => bad
def x_putf (ci j : Nat) : α := match st with
  | v :: .inr (.inl (some k)) :: st' => if okF ci j v = true then putK h k ci j v (fun h1 => nx (i + 1) ls st' h1) bad else bad
  | _ => bad
def ialK (h : zH) (k : Nat) (x : Int) (f : Int → α) (bad : α) : α := match zgt h k with
  | .inr (.inl (n, g)) => if 0 ≤ x ∧ x < n then f (g x) else bad
  | _ => bad
def x_iald (sc : Nat × (Int → Int)) : α := match st with
  | .inl x :: .inr (.inl (some k)) :: st' => ialK h k x (fun z => nx (i + 1) ls (.inl z :: st') h) bad
  | .inl x :: .inr (.inr (.inr (.inr ()))) :: st' => if 0 ≤ x ∧ x < sc.1 then nx (i + 1) ls (.inl (sc.2 x) :: st') h else bad
  | _ => bad
def iasK (h : zH) (k : Nat) (x z : Int) (f : zH → α) (bad : α) : α := match zgt h k with
  | .inr (.inl (n, g)) => if 0 ≤ x ∧ x < n then f (zuH h k (.inr (.inl (n, zup g x z)))) else bad
  | _ => bad
def x_iast : α := match st with
  | .inl z :: .inl x :: .inr (.inl (some k)) :: st' => iasK h k x z (fun h1 => nx (i + 1) ls st' h1) bad
  | _ => bad
def aalK (h : zH) (k : Nat) (x : Int) (f : Option Nat → α) (bad : α) : α := match zgt h k with
  | .inr (.inr (n, g)) => if 0 ≤ x ∧ x < n then f (g x) else bad
  | _ => bad
def x_aald : α := match st with
  | .inl x :: .inr (.inl (some k)) :: st' => aalK h k x (fun r => nx (i + 1) ls (.inr (.inl r) :: st') h) bad
  | _ => bad
def isD (h : zH) (v : Nat) : Bool := match zgt h v with
  | .inl (0, _) => true
  | _ => false
def aasK (h : zH) (k : Nat) (x : Int) (v : Nat) (f : zH → α) (bad : α) : α := match zgt h k with
  | .inr (.inr (n, g)) => if (0 ≤ x ∧ x < n) ∧ isD h v = true then f (zuH h k (.inr (.inr (n, zup g x (some v))))) else bad
  | _ => bad
def x_aast : α := match st with
  | .inr (.inl (some v)) :: .inl x :: .inr (.inl (some k)) :: st' => aasK h k x v (fun h1 => nx (i + 1) ls st' h1) bad
  | _ => bad
def alnK (h : zH) (k : Nat) (f : Int → α) (bad : α) : α := match zgt h k with
  | .inr (.inl (n, _)) => f n
  | _ => bad
def x_alen (sc : Nat × (Int → Int)) : α := match st with
  | .inr (.inl (some k)) :: st' => alnK h k (fun z => nx (i + 1) ls (.inl z :: st') h) bad
  | .inr (.inr (.inr (.inr ()))) :: st' => nx (i + 1) ls (.inl sc.1 :: st') h
  | _ => bad
def x_newa : α := match st with
  | .inl n :: st' => if 0 ≤ n ∧ n ≤ 10000 then nx (i + 1) ls (.inr (.inl (some h.1)) :: st') (zaH h n.toNat (.inr (.inl (n.toNat, fun _ => 0)))) else bad
  | _ => bad
def x_anew : α := match st with
  | .inl n :: st' => if 0 ≤ n ∧ n ≤ 10000 then nx (i + 1) ls (.inr (.inl (some h.1)) :: st') (zaH h n.toNat (.inr (.inr (n.toNat, fun _ => none)))) else bad
  | _ => bad
def x_new (ci : Nat) : α := nx (i + 1) ls (.inr (.inl (some h.1)) :: st) (zaH h (newF ci).length (.inl (ci, newF ci)))
def x_dup : α := match st with
  | .inl z :: st' => nx (i + 1) ls (.inl z :: .inl z :: st') h
  | .inr (.inl r) :: st' => nx (i + 1) ls (.inr (.inl r) :: .inr (.inl r) :: st') h
  | _ => bad
def x_pop : α := match st with
  | .inl _ :: st' => nx (i + 1) ls st' h
  | .inr (.inl _) :: st' => nx (i + 1) ls st' h
  | _ => bad
def x_dup2 : α := match st with
  | .inl z :: .inr (.inl r) :: st' => nx (i + 1) ls (.inl z :: .inr (.inl r) :: .inl z :: .inr (.inl r) :: st') h
  | _ => bad
def x_ifnull (t : Nat) : α := match st with
  | .inr (.inl none) :: st' => nx t ls st' h
  | .inr (.inl (some _)) :: st' => nx (i + 1) ls st' h
  | _ => bad
def x_ifnonnull (t : Nat) : α := match st with
  | .inr (.inl none) :: st' => nx (i + 1) ls st' h
  | .inr (.inl (some _)) :: st' => nx t ls st' h
  | _ => bad
def zplain0 (v : zV) : Bool := match v with
  | .inl _ => true
  | .inr (.inl _) => true
  | _ => false
def zplain (v : zV) : Bool := match v with
  | .inr (.inr (.inr (.inr ()))) => true
  | .inl _ => true
  | .inr (.inl _) => true
  | _ => false
def x_calls (m j : Nat) : α := if (j ≤ st.length ∧ st.length ≤ j + 4) ∧ (st.take j).all zplain = true then cl m (st.take j).reverse (st.drop j) else bad
def zrecv (h : zH) (ci : Nat) (as : List zV) : Bool := match as with
  | .inr (.inl (some k)) :: _ => (match zgt h k with | .inl (c, _) => c == ci | _ => false)
  | _ => false
def x_callv (ci : Int) (m j : Nat) : α := if ((j ≤ st.length ∧ st.length ≤ j + 4) ∧ (st.take j).all zplain = true) ∧ zrecv h ci.toNat (st.take j).reverse = true then cl m (st.take j).reverse (st.drop j) else bad
def x_vret : α := match st with
  | [] => rt none
  | _ => bad
def x_iret : α := match st with
  | [.inl z] => rt (some (.inl z))
  | _ => bad
def x_zret : α := match st with
  | [.inl z] => if z = 0 ∨ z = 1 then rt (some (.inl z)) else bad
  | _ => bad
def x_aret : α := match st with
  | [.inr (.inl r)] => rt (some (.inr (.inl r)))
  | _ => bad
def x_fret : α := match st with
  | [.inr (.inr (.inl b))] => rt (some (.inr (.inr (.inl b))))
  | _ => bad
def x_oinit : α := match st with
  | .inr (.inl (some _)) :: st' => if st'.length ≤ 4 ∧ st'.all zplain = true then nx (i + 1) ls st' h else bad
  | _ => bad
def swK : List (Int × Nat) → Int → (Nat → α) → Nat → α
  | [], _, f, d => f d
  | (k, t) :: r, x, f, d => if x = k then f t else swK r x f d
def x_sw (tb : List (Int × Nat)) (d : Nat) : α := match st with
  | .inl x :: st' => swK tb x (fun t => nx t ls st' h) d
  | _ => bad
def x_i2f : α := match st with
  | .inl x :: st' => nx (i + 1) ls (.inr (.inr (.inl (FP.i2f (Int32.ofInt x)))) :: st') h
  | _ => bad
def n32 (r : UInt32) : Bool := decide (r &&& 0x7fffffff ≤ 0x7f800000)
def n64 (r : UInt64) : Bool := decide (r &&& 0x7fffffffffffffff ≤ 0x7ff0000000000000)
def x_fdiv : α := match st with
  | .inr (.inr (.inl b)) :: .inr (.inr (.inl a)) :: st' => if n32 (FP.fdiv a b) = true then nx (i + 1) ls (.inr (.inr (.inl (FP.fdiv a b))) :: st') h else bad
  | _ => bad
def x_f2d : α := match st with
  | .inr (.inr (.inl a)) :: st' => if n64 (FP.f2d a) = true then nx (i + 1) ls (.inr (.inr (.inr (.inl (FP.f2d a)))) :: st') h else bad
  | _ => bad
def x_dcmp : α := match st with
  | .inr (.inr (.inr (.inl b))) :: .inr (.inr (.inr (.inl a))) :: st' => nx (i + 1) ls (.inl (Op.cmpValue (FP.dcmp a b) .l).toInt :: st') h
  | _ => bad
def x_fcmp : α := match st with
  | .inr (.inr (.inl b)) :: .inr (.inr (.inl a)) :: st' => nx (i + 1) ls (.inl (Op.cmpValue (FP.fcmp a b) .l).toInt :: st') h
  | _ => bad
def x_fconst0 : α := nx (i + 1) ls (.inr (.inr (.inl FP.fconst0)) :: st) h
def x_dload (a : Nat) : α := match ls[a]? with
  | some (some (.inr (.inr (.inr (.inl b))))) => nx (i + 1) ls (.inr (.inr (.inr (.inl b))) :: st) h
  | _ => bad
def x_dstore (a : Nat) : α := match st with
  | .inr (.inr (.inr (.inl b))) :: st' => nx (i + 1) ((ls.set a (some (.inr (.inr (.inr (.inl b)))))).set (a + 1) none) st' h
  | _ => bad
def zex (sc : Nat × (Int → Int)) (op : Op) : α := match op.1 with
  | 0 => nx (i + 1) ls (.inl op.2.1 :: st) h
  | 1 => x_iload i ls st h nx bad op.2.2.1
  | 2 => x_istore i ls st h nx bad op.2.2.1
  | 3 => x_iinc i ls st h nx bad op.2.2.1 op.2.1
  | 4 => x_aload i ls st h nx bad op.2.2.1
  | 5 => x_astore i ls st h nx bad op.2.2.1
  | 7 => nx op.2.2.1 ls st h
  | 8 => x_getf i ls st h nx bad op.2.2.1 op.2.2.2.1
  | 9 => x_putf i ls st h nx bad op.2.2.1 op.2.2.2.1
  | 10 => x_iald i ls st h nx bad sc
  | 11 => x_iast i ls st h nx bad
  | 12 => x_aald i ls st h nx bad
  | 13 => x_aast i ls st h nx bad
  | 14 => x_alen i ls st h nx bad sc
  | 15 => x_newa i ls st h nx bad
  | 16 => x_anew i ls st h nx bad
  | 17 => x_new i ls st h nx op.2.2.1
  | 18 => x_dup i ls st h nx bad
  | 19 => x_pop i ls st h nx bad
  | 20 => x_dup2 i ls st h nx bad
  | 21 => x_ifnull i ls st h nx bad op.2.2.1
  | 22 => x_ifnonnull i ls st h nx bad op.2.2.1
  | 23 => x_calls st cl bad op.2.2.1 op.2.2.2.1
  | 24 => x_callv st h cl bad op.2.1 op.2.2.1 op.2.2.2.1
  | 25 => x_callv st h cl bad op.2.1 op.2.2.1 op.2.2.2.1
  | 26 => x_vret st rt bad
  | 27 => x_iret st rt bad
  | 28 => x_zret st rt bad
  | 29 => x_aret st rt bad
  | 30 => x_fret st rt bad
  | 31 => x_oinit i ls st h nx bad
  | 32 => x_sw ls st h nx bad op.2.2.2.2 op.2.2.1
  | 33 => x_i2f i ls st h nx bad
  | 34 => x_fdiv i ls st h nx bad
  | 35 => x_f2d i ls st h nx bad
  | 36 => x_dcmp i ls st h nx bad
  | 37 => x_fconst0 i ls st h nx
  | 38 => x_dload i ls st h nx bad op.2.2.1
  | 39 => x_dstore i ls st h nx bad op.2.2.1
  | 40 => x_bin i ls st h nx bad (fun x y => zwr (x + y))
  | 41 => x_bin i ls st h nx bad (fun x y => zwr (x - y))
  | 42 => x_bin i ls st h nx bad (fun x y => zwr (x * y))
  | 43 => x_binC i ls st h nx bad (fun x y => 0 ≤ x ∧ 0 < y) (fun x y => x / y)
  | 44 => x_binC i ls st h nx bad (fun x y => 0 ≤ x ∧ 0 < y) (fun x y => x % y)
  | 45 => x_bin i ls st h nx bad (fun x y => (Int32.ofInt x &&& Int32.ofInt y).toInt)
  | 46 => x_bin i ls st h nx bad (fun x y => (Int32.ofInt x ||| Int32.ofInt y).toInt)
  | 47 => x_bin i ls st h nx bad (fun x y => (Int32.ofInt x <<< (Int32.ofInt y &&& 31)).toInt)
  | 48 => x_bin i ls st h nx bad (fun x y => (Int32.ofInt x >>> (Int32.ofInt y &&& 31)).toInt)
  | 49 => x_binS i ls st h nx bad (fun x y => if x < y then y else x)
  | 50 => x_if i ls st h nx bad (fun x => x = 0) op.2.2.1
  | 51 => x_if i ls st h nx bad (fun x => x ≠ 0) op.2.2.1
  | 52 => x_if i ls st h nx bad (fun x => x < 0) op.2.2.1
  | 53 => x_if i ls st h nx bad (fun x => 0 ≤ x) op.2.2.1
  | 54 => x_if i ls st h nx bad (fun x => 0 < x) op.2.2.1
  | 55 => x_if i ls st h nx bad (fun x => x ≤ 0) op.2.2.1
  | 56 => x_binS i ls st h nx bad (fun x y => if y < x then y else x)
  | 57 => x_fcmp i ls st h nx bad
  | 60 => x_icmp i ls st h nx bad (fun x y => x = y) op.2.2.1
  | 61 => x_icmp i ls st h nx bad (fun x y => x ≠ y) op.2.2.1
  | 62 => x_icmp i ls st h nx bad (fun x y => x < y) op.2.2.1
  | 63 => x_icmp i ls st h nx bad (fun x y => y ≤ x) op.2.2.1
  | 64 => x_icmp i ls st h nx bad (fun x y => y < x) op.2.2.1
  | 65 => x_icmp i ls st h nx bad (fun x y => x ≤ y) op.2.2.1
  | _ => bad
end ZEX
def zfe (m i : Nat) : Op := (pgm.getD m []).getD i (99, 0, 0, 0, [])
def zml (m : Nat) : Nat := (mtab.getD m (⟨"", "", ""⟩, code, 0, none, 0, 0)).2.2.1
def zen (m : Nat) (as : List zV) : zL := as.map some ++ List.replicate (zml m - as.length) none
abbrev zR : Type := Option zV × zH
def zrun (sc : Nat × (Int → Int)) : Nat → Nat → Nat → zL → List zV → zH → Option zR
  | 0, _, _, _, _, _ => none
  | n + 1, m, i, ls, st, h => zex i ls st h (fun i' ls' st' h' => zrun sc n m i' ls' st' h') (fun m' as st' => (zrun sc n m' 0 (zen m' as) [] h).bind (fun r => zrun sc n m (i + 1) ls (r.1.toList ++ st') r.2)) (fun r => some (r, h)) none sc (zfe m i)
