/-! THE TABLES AGAINST THE BYTES: 'zck' holds each small instruction against the decoded one; the words of the tables by their places -/
def zMI (m : Nat) : MI := mtab.getD m (⟨"", "", ""⟩, code, 0, none, 0, 0)
def zT (ci : Nat) : vw_C := vwCl.getD ci ("", TX0, 0)
def zN (k : Nat) : String := cN.getD k ""
def zG : List Cond := lw_tbl.filter goodWord
def cpW (q : CE) : Cond := match q.2.2.1 with
  | 0 => .fieldLink (zN q.1) q.2.1 (zT q.2.2.2.1.toNat).1 ((zT q.2.2.2.1.toNat).2.1 q.2.2.2.2).2.1 ((zT q.2.2.2.1.toNat).2.1 q.2.2.2.2).2.2.1
  | 1 => .methodLink (zN q.1) q.2.1 (zMI q.2.2.2.1.toNat).1
  | 2 => .methodLinkNest (zN q.1) q.2.1 (zMI q.2.2.2.1.toNat).1 (zN q.2.2.2.2)
  | 3 => .classLink (zN q.1) q.2.1 (zN q.2.2.2.1.toNat)
  | 4 => .constant (zN q.1) q.2.1 (Int32.ofInt q.2.2.2.1)
  | 6 => .methodLink (zN q.1) q.2.1 Lib.Math.max.name
  | 7 => .methodLink (zN q.1) q.2.1 Lib.Math.min.name
  | _ => .methodLink (zN q.1) q.2.1 objectInit
def mW (q : MI) : List Cond := [.code q.1 q.2.1 q.2.2.1 q.2.2.2.1, .initialized q.1.cls] ++ (match q.2.2.2.2.2 with
  | 0 => [.static q.1]
  | 1 => [.instanceMethod q.1, .selects q.1.cls q.1 q.1]
  | _ => [.instanceMethod q.1])
def xW (q : vw_C) : List Cond := u_ws q.1 q.2.1 q.2.2 ++ [.instantiable q.1 q.2.2, .initialized q.1]
def oW : List Cond := [.instanceMethod objectInit, .code objectInit ⟨#[0xb1]⟩ 1 none, .arrayClass .int, .static Lib.Math.max.name, .code Lib.Math.max.name Lib.Math.max.code 2 (some .int), .static Lib.Math.min.name, .code Lib.Math.min.name Lib.Math.min.code 2 (some .int), .initialized "java/lang/Math"]
def opos2 : List Nat := opos.take 3 ++ opos.drop 4
def wIn (q : Cond × Nat) : Bool := decide (lw_tbl[q.2]? = some q.1) && goodWord q.1
theorem wIn_ok {w : Cond} {p : Nat} (h : wIn (w, p) = true) : w ∈ zG := by
  simp only [wIn, Bool.and_eq_true, decide_eq_true_eq] at h
  exact List.mem_filter.mpr ⟨List.mem_of_getElem? h.1, h.2⟩
theorem zip_mem {α β : Type} : ∀ (l : List α) (k : List β), l.length ≤ k.length → ∀ a ∈ l, ∃ b, (a, b) ∈ l.zip k
  | [], _, _, a, h => by cases h
  | x :: l, [], h, _, _ => by simp at h
  | x :: l, y :: k, h, a, ha => by
    rcases List.mem_cons.mp ha with rfl | ha
    · exact ⟨y, by simp⟩
    · obtain ⟨b, hb⟩ := zip_mem l k (by simpa using h) a ha
      exact ⟨b, by simp [hb]⟩
theorem wAll {ws : List Cond} {ps : List Nat} (hl : ws.length ≤ ps.length) (h : (ws.zip ps).all wIn = true) : ∀ w ∈ ws, w ∈ zG := by
  intro w hw
  obtain ⟨p, hp⟩ := zip_mem ws ps hl w hw
  exact wIn_ok (List.all_eq_true.mp h (w, p) hp)
set_option maxRecDepth 100000 in
theorem cp_len : ctab.length ≤ cpos.length := by decide +kernel
set_option maxRecDepth 100000 in
theorem cp_all : (ctab.zip cpos).all (fun q => decide (lw_tbl[q.2]? = some (cpW q.1)) && (Nat.beq q.1.2.2.1 2 || goodWord (cpW q.1))) = true := by decide +kernel
theorem cp_in {q : CE} (h : q ∈ ctab) (h2 : q.2.2.1 ≠ 2) : cpW q ∈ zG := by
  obtain ⟨p, hp⟩ := zip_mem ctab cpos cp_len q h
  have h1 := List.all_eq_true.mp cp_all (q, p) hp
  simp only [Bool.and_eq_true, decide_eq_true_eq, Bool.or_eq_true, Nat.beq_eq] at h1
  exact List.mem_filter.mpr ⟨List.mem_of_getElem? h1.1, h1.2.resolve_left h2⟩
theorem cp_nest {q : CE} (h : q ∈ ctab) : cpW q ∈ lw_tbl := by
  obtain ⟨p, hp⟩ := zip_mem ctab cpos cp_len q h
  have h1 := List.all_eq_true.mp cp_all (q, p) hp
  simp only [Bool.and_eq_true, decide_eq_true_eq, Bool.or_eq_true, Nat.beq_eq] at h1
  exact List.mem_of_getElem? h1.1
def mOk (q : MI × List Nat) : Bool := decide ((mW q.1).length ≤ q.2.length) && ((mW q.1).zip q.2).all wIn
set_option maxRecDepth 100000 in
theorem m_all_0 : (((mtab.zip mpos).drop 0).take 14).all mOk = true := by decide +kernel
set_option maxRecDepth 100000 in
theorem m_all_1 : (((mtab.zip mpos).drop 14).take 14).all mOk = true := by decide +kernel
set_option maxRecDepth 100000 in
theorem m_all_2 : (((mtab.zip mpos).drop 28).take 14).all mOk = true := by decide +kernel
set_option maxRecDepth 100000 in
theorem m_all_3 : (((mtab.zip mpos).drop 42).take 14).all mOk = true := by decide +kernel
set_option maxRecDepth 100000 in
theorem m_all_4 : (((mtab.zip mpos).drop 56).take 14).all mOk = true := by decide +kernel
set_option maxRecDepth 100000 in
theorem m_all_5 : (((mtab.zip mpos).drop 70).take 14).all mOk = true := by decide +kernel
set_option maxRecDepth 100000 in
theorem m_all_6 : (((mtab.zip mpos).drop 84).take 3).all mOk = true := by decide +kernel
set_option maxRecDepth 100000 in
theorem m_all_7 : (((mtab.zip mpos).drop 87).take 1).all mOk = true := by decide +kernel
set_option maxRecDepth 100000 in
theorem m_all_8 : (((mtab.zip mpos).drop 88).take 1).all mOk = true := by decide +kernel
set_option maxRecDepth 100000 in
theorem m_all_9 : (((mtab.zip mpos).drop 89).take 1).all mOk = true := by decide +kernel
set_option maxRecDepth 100000 in
theorem m_all_10 : (((mtab.zip mpos).drop 90).take 1).all mOk = true := by decide +kernel
set_option maxRecDepth 100000 in
theorem m_all_11 : (((mtab.zip mpos).drop 91).take 1).all mOk = true := by decide +kernel
set_option maxRecDepth 100000 in
theorem m_all_12 : (((mtab.zip mpos).drop 92).take 1).all mOk = true := by decide +kernel
set_option maxRecDepth 100000 in
theorem m_all_13 : (((mtab.zip mpos).drop 93).take 1).all mOk = true := by decide +kernel
set_option maxRecDepth 100000 in
theorem m_all_14 : (((mtab.zip mpos).drop 94).take 1).all mOk = true := by decide +kernel
set_option maxRecDepth 100000 in
theorem m_all_15 : (((mtab.zip mpos).drop 95).take 1).all mOk = true := by decide +kernel
set_option maxRecDepth 100000 in
theorem m_len : mtab.length = 97 ∧ mpos.length = 97 := by decide +kernel
theorem m_at {a n m : Nat} (hm : a ≤ m ∧ m < a + n ∧ m < 96) (hall : (((mtab.zip mpos).drop a).take n).all mOk = true) : ∀ w ∈ mW (zMI m), w ∈ zG := by
  have h1 : m < mtab.length := by rw [m_len.1]; omega
  have h2 : m < mpos.length := by rw [m_len.2]; omega
  have h3 : (mtab.zip mpos)[m]? = some (mtab[m], mpos[m]) := by
    rw [List.getElem?_zip_eq_some]
    exact ⟨List.getElem?_eq_getElem h1, List.getElem?_eq_getElem h2⟩
  have h4 : (((mtab.zip mpos).drop a).take n)[m - a]? = some (mtab[m], mpos[m]) := by
    rw [List.getElem?_take_of_lt (by omega), List.getElem?_drop, show a + (m - a) = m by omega]; exact h3
  have h5 := List.all_eq_true.mp hall _ (List.mem_of_getElem? h4)
  simp only [mOk, Bool.and_eq_true, decide_eq_true_eq] at h5
  have h6 : zMI m = mtab[m] := by
    unfold zMI
    rw [List.getD_eq_getElem?_getD, List.getElem?_eq_getElem h1]
    rfl
  rw [h6]
  exact wAll h5.1 h5.2
theorem m_in {m : Nat} (h : m < 96) : ∀ w ∈ mW (zMI m), w ∈ zG := by
  rcases (show (0 ≤ m ∧ m < 14) ∨ (14 ≤ m ∧ m < 28) ∨ (28 ≤ m ∧ m < 42) ∨ (42 ≤ m ∧ m < 56) ∨ (56 ≤ m ∧ m < 70) ∨ (70 ≤ m ∧ m < 84) ∨ (84 ≤ m ∧ m < 87) ∨ (87 ≤ m ∧ m < 88) ∨ (88 ≤ m ∧ m < 89) ∨ (89 ≤ m ∧ m < 90) ∨ (90 ≤ m ∧ m < 91) ∨ (91 ≤ m ∧ m < 92) ∨ (92 ≤ m ∧ m < 93) ∨ (93 ≤ m ∧ m < 94) ∨ (94 ≤ m ∧ m < 95) ∨ (95 ≤ m ∧ m < 96) by omega) with q | q | q | q | q | q | q | q | q | q | q | q | q | q | q | q
  · exact m_at (a := 0) (n := 14) (by omega) m_all_0
  · exact m_at (a := 14) (n := 14) (by omega) m_all_1
  · exact m_at (a := 28) (n := 14) (by omega) m_all_2
  · exact m_at (a := 42) (n := 14) (by omega) m_all_3
  · exact m_at (a := 56) (n := 14) (by omega) m_all_4
  · exact m_at (a := 70) (n := 14) (by omega) m_all_5
  · exact m_at (a := 84) (n := 3) (by omega) m_all_6
  · exact m_at (a := 87) (n := 1) (by omega) m_all_7
  · exact m_at (a := 88) (n := 1) (by omega) m_all_8
  · exact m_at (a := 89) (n := 1) (by omega) m_all_9
  · exact m_at (a := 90) (n := 1) (by omega) m_all_10
  · exact m_at (a := 91) (n := 1) (by omega) m_all_11
  · exact m_at (a := 92) (n := 1) (by omega) m_all_12
  · exact m_at (a := 93) (n := 1) (by omega) m_all_13
  · exact m_at (a := 94) (n := 1) (by omega) m_all_14
  · exact m_at (a := 95) (n := 1) (by omega) m_all_15
set_option maxRecDepth 100000 in
theorem x_all : ((vwCl.map xW).zip xpos).all (fun q => decide (q.1.length ≤ q.2.length) && (q.1.zip q.2).all wIn) = true := by decide +kernel
theorem x_in : ∀ ci : Nat, ci < 6 → ∀ w ∈ xW (zT ci), w ∈ zG := by
  intro ci h
  have h1 : ci < (vwCl.map xW).length := by simpa using h
  have h2 : ci < xpos.length := by simpa [xpos] using h
  have h3 : ((vwCl.map xW).zip xpos)[ci]? = some ((vwCl.map xW)[ci], xpos[ci]) := by
    rw [List.getElem?_zip_eq_some]
    exact ⟨List.getElem?_eq_getElem h1, List.getElem?_eq_getElem h2⟩
  have h5 := List.all_eq_true.mp x_all _ (List.mem_of_getElem? h3)
  simp only [Bool.and_eq_true, decide_eq_true_eq] at h5
  have h7 : ci < vwCl.length := by simpa using h
  have h6 : xW (zT ci) = (vwCl.map xW)[ci] := by
    rw [List.getElem_map]
    congr 1
    simp [zT, List.getD_eq_getElem?_getD, List.getElem?_eq_getElem h7]
  rw [h6]
  exact wAll h5.1 h5.2
set_option maxRecDepth 100000 in
theorem o_all : (oW.zip opos2).all wIn = true := by decide +kernel
theorem o_in : ∀ w ∈ oW, w ∈ zG := wAll (by decide +kernel) o_all
set_option maxRecDepth 100000 in
theorem ao_in : Cond.arrayOver (.object RX0) ∈ lw_tbl := List.mem_of_getElem? (i := opos.getD 3 0) (by decide +kernel)
/-- what a class's fields are: declared by the class itself, named apart, of the kinds of fkt -/
def tOk (q : vw_C × List Nat) : Bool := decide (q.2.length = q.1.2.2) && (List.range q.1.2.2).all (fun k => decide ((q.1.2.1 k).1 = q.1.1) && (match q.2.getD k 9, parseFieldDescriptor (q.1.2.1 k).2.2.1 with
    | 0, some .int => true
    | 1, some (.object _) => true
    | 1, some (.array _) => true
    | _, _ => false))
set_option maxRecDepth 100000 in
theorem t_all : (vwCl.zip fkt).all tOk = true := by decide +kernel
/-- an entry of the pools -/
def ceq (a b : CE) : Bool := Nat.beq a.2.1 b.2.1 && (Nat.beq a.1 b.1 && (Nat.beq a.2.2.1 b.2.2.1 && (decide (a.2.2.2.1 = b.2.2.2.1) && Nat.beq a.2.2.2.2 b.2.2.2.2)))
def cIn (q : CE) : Bool := ctab.any (fun a => ceq a q)
theorem cIn_ok {q : CE} (h : cIn q = true) : q ∈ ctab := by
  simp only [cIn, List.any_eq_true] at h
  obtain ⟨a, ha, he⟩ := h
  simp only [ceq, Bool.and_eq_true, Nat.beq_eq, decide_eq_true_eq] at he
  obtain ⟨h1, h2, h3, h4, h5⟩ := he
  have : a = q := by
    obtain ⟨a1, a2, a3, a4, a5⟩ := a
    obtain ⟨q1, q2, q3, q4, q5⟩ := q
    simp only at h1 h2 h3 h4 h5
    subst h1; subst h2; subst h3; subst h4; subst h5
    rfl
  exact this ▸ ha
/-- the check of one instruction: own class, kind of the method, its locals' number, its doubles' places, room, its program counters -/
def zNx (P : List Nat) (i pc len : Nat) : Bool := P.getD (i + 1) 0 == pc + len
def zTg (P : List Nat) (pc t : Nat) (off : Int) : Bool := (pc : Int) + off == ((P.getD t 0 : Nat) : Int)
def zCl (rf rl : Nat) (m' : Nat) (j : Nat) (kind : Nat) : Bool := decide (m' < 96) && ((zMI m').2.2.2.2.2 == kind) && decide ((parseMethodDescriptor (zMI m').1.desc).map (fun d => d.parameters.length) = some j) && decide (rmF.getD m' 0 + 1 ≤ rf) && decide (8 + ((zMI m').2.2.1 + 11) + rmL.getD m' 0 ≤ rl) && decide ((zMI m').1.cls ≠ "java/lang/invoke/MethodHandle" ∧ (zMI m').1.cls ≠ "java/lang/invoke/VarHandle")
def zck (own kind mx rf rl : Nat) (ret : Option FieldType) (ds P : List Nat) (i pc : Nat) (op : Op) (d : Except DecodeError (Instr × Nat)) : Bool := match d with
  | .ok (.iconst n, 1) => op.1 == 0 && op.2.1 == n && decide (-128 ≤ n ∧ n < 128) && zNx P i pc 1
  | .ok (.bipush n, 2) => op.1 == 0 && op.2.1 == n && decide (-128 ≤ n ∧ n < 128) && zNx P i pc 2
  | .ok (.sipush n, 3) => op.1 == 0 && op.2.1 == n && decide (-32768 ≤ n ∧ n < 32768) && zNx P i pc 3
  | .ok (.ldc ix, 2) => op.1 == 0 && cIn (own, ix, 4, op.2.1, 0) && decide (-2147483648 ≤ op.2.1 ∧ op.2.1 ≤ 2147483647) && zNx P i pc 2
  | .ok (.iload_n k, 1) => op.1 == 1 && op.2.2.1 == k.val && zNx P i pc 1
  | .ok (.iload k, 2) => op.1 == 1 && op.2.2.1 == k && zNx P i pc 2
  | .ok (.aload_n k, 1) => op.1 == 4 && op.2.2.1 == k.val && zNx P i pc 1
  | .ok (.aload k, 2) => op.1 == 4 && op.2.2.1 == k && zNx P i pc 2
  | .ok (.istore_n k, 1) => op.1 == 2 && op.2.2.1 == k.val && decide (k.val < mx) && ds.all (fun d => d + 1 != k.val) && zNx P i pc 1
  | .ok (.istore k, 2) => op.1 == 2 && op.2.2.1 == k && decide (k < mx) && ds.all (fun d => d + 1 != k) && zNx P i pc 2
  | .ok (.astore_n k, 1) => op.1 == 5 && op.2.2.1 == k.val && decide (k.val < mx) && ds.all (fun d => d + 1 != k.val) && zNx P i pc 1
  | .ok (.astore k, 2) => op.1 == 5 && op.2.2.1 == k && decide (k < mx) && ds.all (fun d => d + 1 != k) && zNx P i pc 2
  | .ok (.iinc k n, 3) => op.1 == 3 && op.2.2.1 == k && op.2.1 == n && decide (k < mx) && decide (-2147483648 ≤ n ∧ n ≤ 2147483647) && ds.all (fun d => d + 1 != k) && zNx P i pc 3
  | .ok (.iadd, 1) => op.1 == 40 && zNx P i pc 1
  | .ok (.isub, 1) => op.1 == 41 && zNx P i pc 1
  | .ok (.imul, 1) => op.1 == 42 && zNx P i pc 1
  | .ok (.idiv, 1) => op.1 == 43 && zNx P i pc 1
  | .ok (.irem, 1) => op.1 == 44 && zNx P i pc 1
  | .ok (.iand, 1) => op.1 == 45 && zNx P i pc 1
  | .ok (.ior, 1) => op.1 == 46 && zNx P i pc 1
  | .ok (.ishl, 1) => op.1 == 47 && zNx P i pc 1
  | .ok (.ishr, 1) => op.1 == 48 && zNx P i pc 1
  | .ok (.ifCond .eq off, 3) => op.1 == 50 && zTg P pc op.2.2.1 off && zNx P i pc 3
  | .ok (.ifCond .ne off, 3) => op.1 == 51 && zTg P pc op.2.2.1 off && zNx P i pc 3
  | .ok (.ifCond .lt off, 3) => op.1 == 52 && zTg P pc op.2.2.1 off && zNx P i pc 3
  | .ok (.ifCond .ge off, 3) => op.1 == 53 && zTg P pc op.2.2.1 off && zNx P i pc 3
  | .ok (.ifCond .gt off, 3) => op.1 == 54 && zTg P pc op.2.2.1 off && zNx P i pc 3
  | .ok (.ifCond .le off, 3) => op.1 == 55 && zTg P pc op.2.2.1 off && zNx P i pc 3
  | .ok (.if_icmp .eq off, 3) => op.1 == 60 && zTg P pc op.2.2.1 off && zNx P i pc 3
  | .ok (.if_icmp .ne off, 3) => op.1 == 61 && zTg P pc op.2.2.1 off && zNx P i pc 3
  | .ok (.if_icmp .lt off, 3) => op.1 == 62 && zTg P pc op.2.2.1 off && zNx P i pc 3
  | .ok (.if_icmp .ge off, 3) => op.1 == 63 && zTg P pc op.2.2.1 off && zNx P i pc 3
  | .ok (.if_icmp .gt off, 3) => op.1 == 64 && zTg P pc op.2.2.1 off && zNx P i pc 3
  | .ok (.if_icmp .le off, 3) => op.1 == 65 && zTg P pc op.2.2.1 off && zNx P i pc 3
  | .ok (.goto off, 3) => op.1 == 7 && zTg P pc op.2.2.1 off
  | .ok (.ifnull off, 3) => op.1 == 21 && zTg P pc op.2.2.1 off && zNx P i pc 3
  | .ok (.ifnonnull off, 3) => op.1 == 22 && zTg P pc op.2.2.1 off && zNx P i pc 3
  | .ok (.getfield ix, 3) => op.1 == 8 && cIn (own, ix, 0, (op.2.2.1 : Int), op.2.2.2.1) && decide (op.2.2.1 < 6 ∧ op.2.2.2.1 < (zT op.2.2.1).2.2) && zNx P i pc 3
  | .ok (.putfield ix, 3) => op.1 == 9 && cIn (own, ix, 0, (op.2.2.1 : Int), op.2.2.2.1) && decide (op.2.2.1 < 6 ∧ op.2.2.2.1 < (zT op.2.2.1).2.2) && (!(((zT op.2.2.1).2.1 op.2.2.2.1).2.2.2) || (kind == 2 && own == op.2.2.1)) && zNx P i pc 3
  | .ok (.iaload, 1) => op.1 == 10 && zNx P i pc 1
  | .ok (.iastore, 1) => op.1 == 11 && zNx P i pc 1
  | .ok (.aaload, 1) => op.1 == 12 && zNx P i pc 1
  | .ok (.aastore, 1) => op.1 == 13 && zNx P i pc 1
  | .ok (.arraylength, 1) => op.1 == 14 && zNx P i pc 1
  | .ok (.newarray .int, 2) => op.1 == 15 && zNx P i pc 2
  | .ok (.anewarray ix, 3) => op.1 == 16 && cIn (own, ix, 3, 0, 0) && zNx P i pc 3
  | .ok (.new ix, 3) => op.1 == 17 && cIn (own, ix, 3, (op.2.2.1 : Int), 0) && decide (op.2.2.1 < 6) && zNx P i pc 3
  | .ok (.dup, 1) => op.1 == 18 && zNx P i pc 1
  | .ok (.pop, 1) => op.1 == 19 && zNx P i pc 1
  | .ok (.dup2, 1) => op.1 == 20 && zNx P i pc 1
  | .ok (.invokestatic ix, 3) => zNx P i pc 3 && ((op.1 == 23 && (cIn (own, ix, 1, (op.2.2.1 : Int), 0) || cIn (own, ix, 2, (op.2.2.1 : Int), 5)) && zCl rf rl op.2.2.1 op.2.2.2.1 0) || ((op.1 == 49 && cIn (own, ix, 6, 0, 0) && decide (1 ≤ rf ∧ 21 ≤ rl)) || (op.1 == 56 && cIn (own, ix, 7, 0, 0) && decide (1 ≤ rf ∧ 21 ≤ rl))))
  | .ok (.invokevirtual ix, 3) => op.1 == 24 && cIn (own, ix, 1, (op.2.2.1 : Int), 0) && zCl rf rl op.2.2.1 (op.2.2.2.1 - 1) 1 && decide (0 < op.2.2.2.1) && decide (op.2.1 < 6 ∧ (zT op.2.1.toNat).1 = (zMI op.2.2.1).1.cls) && zNx P i pc 3
  | .ok (.invokespecial ix, 3) => zNx P i pc 3 && ((op.1 == 31 && cIn (own, ix, 5, 0, 0) && decide (1 ≤ rf ∧ 20 ≤ rl)) || (op.1 == 25 && cIn (own, ix, 1, (op.2.2.1 : Int), 0) && zCl rf rl op.2.2.1 (op.2.2.2.1 - 1) 2 && decide (0 < op.2.2.2.1) && decide ((zMI op.2.2.1).1.name = "<init>") && decide ((zMI op.2.2.1).2.2.2.1 = none)))
  | .ok (.return_, 1) => op.1 == 26 && decide (ret = none)
  | .ok (.ireturn, 1) => (op.1 == 27 && decide (ret = some .int)) || (op.1 == 28 && decide (ret = some .boolean))
  | .ok (.areturn, 1) => op.1 == 29 && (match ret with | some (.object _) => true | some (.array _) => true | _ => false)
  | .ok (.freturn, 1) => op.1 == 30 && decide (ret = some .float)
  | .ok (.tableswitch d lo hi offs, _) => op.1 == 32 && zTg P pc op.2.2.1 d && decide (hi - lo + 1 = (offs.size : Int)) && decide (op.2.2.2.2.length = offs.size) && (List.range offs.size).all (fun k => match op.2.2.2.2[k]?, offs[k]? with
      | some (a, t), some o => a == lo + (k : Int) && zTg P pc t o
      | _, _ => false)
  | .ok (.lookupswitch d ps, _) => op.1 == 32 && zTg P pc op.2.2.1 d && (ps.toList.zip (ps.toList.drop 1)).all (fun (a, next) => a.1 < next.1) && decide (op.2.2.2.2.length = ps.toList.length) && (op.2.2.2.2.zip ps.toList).all (fun q => q.1.1 == q.2.1 && decide (-2147483648 ≤ q.1.1 ∧ q.1.1 ≤ 2147483647) && zTg P pc q.1.2 q.2.2)
  | .ok (.i2f, 1) => op.1 == 33 && zNx P i pc 1
  | .ok (.fdiv, 1) => op.1 == 34 && zNx P i pc 1
  | .ok (.f2d, 1) => op.1 == 35 && zNx P i pc 1
  | .ok (.dcmp .l, 1) => op.1 == 36 && zNx P i pc 1
  | .ok (.fcmp .l, 1) => op.1 == 57 && zNx P i pc 1
  | .ok (.fconst 0, 1) => op.1 == 37 && zNx P i pc 1
  | .ok (.dload k, 2) => op.1 == 38 && op.2.2.1 == k && zNx P i pc 2
  | .ok (.dstore k, 2) => op.1 == 39 && op.2.2.1 == k && decide (k + 1 < mx) && ds.all (fun d => d + 1 != k && d != k + 1) && ds.contains k && zNx P i pc 2
  | _ => false
def zds (m : Nat) : List Nat := (pgm.getD m []).filterMap (fun op => if op.1 = 39 then some op.2.2.1 else none)
def zpc (m i : Nat) : Nat := (ptab.getD m []).getD i 0
def zckI (m i : Nat) : Bool := zck (zMI m).2.2.2.2.1 (zMI m).2.2.2.2.2 (zMI m).2.2.1 (rmF.getD m 0) (rmL.getD m 0) (zMI m).2.2.2.1 (zds m) (ptab.getD m []) i (zpc m i) (zfe m i) (decode (zMI m).2.1 (zpc m i))
def zckM (m : Nat) : Bool := (List.range (pgm.getD m []).length).all (fun i => zckI m i) && (zpc m 0 == 0)
set_option maxRecDepth 100000 in
theorem ck_0 : (List.range' 0 14).all zckM = true := by decide +kernel
set_option maxRecDepth 100000 in
theorem ck_1 : (List.range' 14 14).all zckM = true := by decide +kernel
set_option maxRecDepth 100000 in
theorem ck_2 : (List.range' 28 14).all zckM = true := by decide +kernel
set_option maxRecDepth 100000 in
theorem ck_3 : (List.range' 42 14).all zckM = true := by decide +kernel
set_option maxRecDepth 100000 in
theorem ck_4 : (List.range' 56 14).all zckM = true := by decide +kernel
set_option maxRecDepth 100000 in
theorem ck_5 : (List.range' 70 14).all zckM = true := by decide +kernel
set_option maxRecDepth 100000 in
theorem ck_6 : (List.range' 84 3).all zckM = true := by decide +kernel
set_option maxRecDepth 100000 in
theorem ck_7 : (List.range' 87 1).all zckM = true := by decide +kernel
set_option maxRecDepth 100000 in
theorem ck_8 : (List.range' 88 1).all zckM = true := by decide +kernel
set_option maxRecDepth 100000 in
theorem ck_9 : (List.range' 89 1).all zckM = true := by decide +kernel
set_option maxRecDepth 100000 in
theorem ck_10 : (List.range' 90 1).all zckM = true := by decide +kernel
set_option maxRecDepth 100000 in
theorem ck_11 : (List.range' 91 1).all zckM = true := by decide +kernel
set_option maxRecDepth 100000 in
theorem ck_12 : (List.range' 92 1).all zckM = true := by decide +kernel
set_option maxRecDepth 100000 in
theorem ck_13 : (List.range' 93 1).all zckM = true := by decide +kernel
set_option maxRecDepth 100000 in
theorem ck_14 : (List.range' 94 1).all zckM = true := by decide +kernel
set_option maxRecDepth 100000 in
theorem ck_15 : (List.range' 95 1).all zckM = true := by decide +kernel
set_option maxRecDepth 100000 in
theorem ckl_0 : (List.range' 0 54).all (fun i => Nat.ble 79 i || zckI 96 i) = true := by decide +kernel
set_option maxRecDepth 100000 in
theorem ckl_1 : (List.range' 54 54).all (fun i => Nat.ble 79 i || zckI 96 i) = true := by decide +kernel
theorem ckl_len : (pgm.getD 96 []).length = 79 ∧ zpc 96 0 = 0 := by decide +kernel
theorem ckl : zckM 96 = true := by
  simp only [zckM, Bool.and_eq_true, beq_iff_eq]
  refine ⟨List.all_eq_true.mpr (fun i hi => ?_), ckl_len.2⟩
  rw [ckl_len.1] at hi
  have hi := List.mem_range.mp hi
  have key : ∀ a, a ≤ i → i < a + 54 → (List.range' a 54).all (fun i => Nat.ble 79 i || zckI 96 i) = true → zckI 96 i = true := by
    intro a h1 h2 h3
    have h4 := List.all_eq_true.mp h3 i (by simp only [List.mem_range']; exact ⟨i - a, by omega, by omega⟩)
    simp only [Bool.or_eq_true, Nat.ble_eq] at h4
    exact h4.resolve_left (by omega)
  rcases (show i / 54 = 0 ∨ i / 54 = 1 by omega) with q | q
  · exact key 0 (by omega) (by omega) ckl_0
  · exact key 54 (by omega) (by omega) ckl_1
theorem ck_len : pgm.length = 97 := by decide +kernel
theorem ck_ok {m i : Nat} (h : (zfe m i).1 ≠ 99) : zckI m i = true ∧ m < 97 ∧ zpc m 0 = 0 := by
  have hm : m < 97 := by
    rcases Nat.lt_or_ge m 97 with q | q
    · exact q
    · exfalso
      apply h
      have : pgm.getD m [] = [] := by
        rw [List.getD_eq_getElem?_getD, List.getElem?_eq_none (by rw [ck_len]; exact q)]
        rfl
      unfold zfe
      rw [this]
      rfl
  have hM : zckM m = true := by
    rcases Nat.lt_or_ge m 96 with q0 | q0
    · have key : ∀ a n, a ≤ m → m < a + n → (List.range' a n).all zckM = true → zckM m = true := fun a n h1 h2 h3 => List.all_eq_true.mp h3 m (by simp only [List.mem_range']; exact ⟨m - a, by omega, by omega⟩)
      rcases (show (0 ≤ m ∧ m < 14) ∨ (14 ≤ m ∧ m < 28) ∨ (28 ≤ m ∧ m < 42) ∨ (42 ≤ m ∧ m < 56) ∨ (56 ≤ m ∧ m < 70) ∨ (70 ≤ m ∧ m < 84) ∨ (84 ≤ m ∧ m < 87) ∨ (87 ≤ m ∧ m < 88) ∨ (88 ≤ m ∧ m < 89) ∨ (89 ≤ m ∧ m < 90) ∨ (90 ≤ m ∧ m < 91) ∨ (91 ≤ m ∧ m < 92) ∨ (92 ≤ m ∧ m < 93) ∨ (93 ≤ m ∧ m < 94) ∨ (94 ≤ m ∧ m < 95) ∨ (95 ≤ m ∧ m < 96) by omega) with q | q | q | q | q | q | q | q | q | q | q | q | q | q | q | q
      · exact key 0 14 (by omega) (by omega) ck_0
      · exact key 14 14 (by omega) (by omega) ck_1
      · exact key 28 14 (by omega) (by omega) ck_2
      · exact key 42 14 (by omega) (by omega) ck_3
      · exact key 56 14 (by omega) (by omega) ck_4
      · exact key 70 14 (by omega) (by omega) ck_5
      · exact key 84 3 (by omega) (by omega) ck_6
      · exact key 87 1 (by omega) (by omega) ck_7
      · exact key 88 1 (by omega) (by omega) ck_8
      · exact key 89 1 (by omega) (by omega) ck_9
      · exact key 90 1 (by omega) (by omega) ck_10
      · exact key 91 1 (by omega) (by omega) ck_11
      · exact key 92 1 (by omega) (by omega) ck_12
      · exact key 93 1 (by omega) (by omega) ck_13
      · exact key 94 1 (by omega) (by omega) ck_14
      · exact key 95 1 (by omega) (by omega) ck_15
    · have : m = 96 := by omega
      subst this; exact ckl
  simp only [zckM, Bool.and_eq_true, beq_iff_eq] at hM
  have hi : i < (pgm.getD m []).length := by
    rcases Nat.lt_or_ge i (pgm.getD m []).length with q | q
    · exact q
    · exfalso
      apply h
      unfold zfe
      rw [List.getD_eq_getElem?_getD (l := pgm.getD m []), List.getElem?_eq_none q]
      rfl
  exact ⟨List.all_eq_true.mp hM.1 i (List.mem_range.mpr hi), hm, hM.2⟩
