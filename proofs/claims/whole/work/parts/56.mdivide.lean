/-! THE MODEL'S DIVISIONS -/
theorem eA_nd {T : Int → Int} {i c : Int} (hc : 0 < c) (h : eA T i c = true) : nd c ≤ i + 1 := by
  have := nd_nn c
  unfold eA at h
  rw [decide_eq_true_eq] at h
  unfold enT at h
  split at h <;> omega
theorem agr_s {f F : Int → Int} {r : Int} (h : agr f F r) : agr (zup f r (f r)) F r := by
  intro k h0 h1
  by_cases hk : k = r
  · rw [hk, zup_s]; exact h r (by omega) (Int.le_refl _)
  · rw [zup_n hk]; exact h k h0 h1
theorem dvL_cg {M M' : Int → List zI} : ∀ (n : Nat), (∀ k : Int, 0 ≤ k → k < n → M k = M' k) → dvR M n = dvR M' n
  | 0, _ => rfl
  | n + 1, h => by
    unfold dvR
    rw [dvL_cg n (fun k a b => h k a (by omega)), h n (by omega) (by omega)]
section
variable {sc : Nat × (Int → Int)} {h : zH} {Q : Option zV → zH → Prop} {pm fl p n : Int} {w : Int → Int} {T : Int → Int} {L : List zI}
def mY (h : zH) (pm fl p n : Int) (w T f g : Int → Int) : Prop := mX h pm fl p n w T ∧ zgt h 30 = .inr (.inl (61, f)) ∧ zgt h 31 = .inr (.inl (61, g))
theorem mY_u {f g : Int → Int} (hY : mY h pm fl p n w T f g) (f' g' : Int → Int) : mY (zuH (zuH h 30 (.inr (.inl (61, f')))) 31 (.inr (.inl (61, g')))) pm fl p n w T f' g' := by
  obtain ⟨⟨a, b, c⟩, d, e⟩ := hY
  refine ⟨⟨?_, ?_, ?_⟩, ?_, ?_⟩
  · simp (disch := omega) only [zgt_u, zgt_a, if_pos, if_neg, if_true, if_false, ite_true, ite_false]
    exact a
  · simp (disch := omega) only [zgt_u, zgt_a, if_pos, if_neg, if_true, if_false, ite_true, ite_false]
    exact b
  · simp (disch := omega) only [zgt_u, zgt_a, if_pos, if_neg, if_true, if_false, ite_true, ite_false]
    exact c
  · simp (disch := omega) only [zgt_u, zgt_a, if_pos, if_neg, if_true, if_false, ite_true, ite_false]
  · simp (disch := omega) only [zgt_u, zgt_a, if_pos, if_neg, if_true, if_false, ite_true, ite_false]
theorem lp_lay1 {i : Int} (hT : okT T n) (hV : lvO w L) (hi : 0 ≤ i ∧ i < n) : ∀ (B A : List zI) (h : zH) (q : (Int → Int) × (Int → Int)) (f g : Int → Int) (l3 l4 l5 : Option zV), L = A ++ B → mY h pm fl p n w T f g → agr f q.1 (i + 1) → agr g q.2 (i + 1) → dvOk q (i + 1) → (∀ h' f' g' l2 l3 l4 l5, mY h' pm fl p n w T f' g' → agr f' (dvL (i + 1) (fE T i B) q).1 (i + 1) → agr g' (dvL (i + 1) (fE T i B) q).2 (i + 1) → dvOk (dvL (i + 1) (fE T i B) q) (i + 1) → fr h h' 30 2 → zwp sc 147 136 [some (.inr (.inl (some 24))), some (.inl (i + 1)), l2, l3, l4, l5] [] h' Q) → zwp sc 147 38 [some (.inr (.inl (some 24))), some (.inl (i + 1)), some (.inl (A.length : Int)), l3, l4, l5] [] h Q := by
  obtain ⟨hL, hl, hs, ho⟩ := id hV
  have h60 := hT.2.1
  intro B
  induction B with
  | nil =>
    intro A h q f g l3 l4 l5 e hY hf hg hk hQ
    rw [List.append_nil] at e
    have hw := hL.1
    rw [e] at hw
    obtain ⟨⟨hO, hW, hX4⟩, h30, h31⟩ := id hY
    have := hQ h f g (some (.inl (A.length : Int))) l3 l4 l5 hY hf hg hk fr_rf
    rw [w_147_38]
    simp (disch := omega) only [e_147, w_147_39, w_147_40, w_147_41, w_147_42, w_147_43, w_147_44, w_147_45, w_147_46, w_147_47, w_147_48, w_147_49, w_147_50, w_147_51, w_147_52, w_147_53, w_147_54, w_147_55, w_147_56, w_147_57, w_147_58, w_147_59, w_147_60, w_147_61, w_147_62, w_147_63, w_147_64, w_147_65, w_147_66, w_147_67, w_147_68, w_147_69, w_147_70, w_147_71, w_147_72, w_147_73, w_147_74, w_147_75, w_147_76, w_147_77, w_147_78, w_147_79, w_147_80, w_147_81, w_147_82, w_147_83, w_147_84, w_147_85, w_147_86, w_147_87, w_147_88, w_147_89, w_147_90, w_147_91, w_147_92, w_147_93, w_147_94, w_147_95, w_147_96, w_147_97, w_147_98, w_147_99, w_147_100, w_147_101, w_147_102, w_147_103, w_147_104, w_147_105, w_147_106, w_147_107, w_147_108, w_147_109, w_147_110, w_147_111, w_147_112, w_147_113, w_147_114, w_147_115, w_147_116, w_147_117, w_147_118, w_147_119, w_147_120, w_147_121, w_147_122, w_147_123, w_147_124, w_147_125, w_147_126, w_147_127, w_147_128, w_147_129, w_147_130, w_147_131, w_147_132, w_147_133, w_147_134, w_147_135, getK, putK, ialK, iasK, aalK, aasK, alnK, zgt_u, zgt_a, Option.toList_some, Option.toList_none, List.cons_append, List.nil_append, List.map_cons, List.map_nil, List.replicate, ite_true, ite_false, if_true, if_false, List.getElem?_cons_zero, List.getElem?_cons_succ, List.set_cons_zero, List.set_cons_succ, true_and, and_true, beq_self_eq_true, zite, Int.toNat_natCast, if_pos, if_neg, zwr_id, zand, hO, hW, hw]
    exact this
  | cons x B ih =>
    intro A h q f g l3 l4 l5 e hY hf hg hk hQ
    have hw := hL.1
    obtain ⟨hX, h30, h31⟩ := id hY
    obtain ⟨hO, hW, hX4⟩ := id hX
    have hlen : L.length = A.length + (B.length + 1) := by rw [e]; simp
    have hxo := (ho x (by rw [e]; simp)).2.2.1
    have hxw := (ho x (by rw [e]; simp)).2.2.2
    obtain ⟨hx, hy⟩ := hL.2 A.length (by omega) (by omega)
    rw [e, gI_app] at hx hy
    have hxr : 0 ≤ x.2.1 ∧ x.2.1 ≤ 999999 := by unfold wd at hxo; omega
    have hnd := wd_nd hxo
    have ih := fun h q f g l3 l4 l5 => ih (A ++ [x]) h q f g l3 l4 l5 (by rw [e]; simp)
    rw [List.length_append, List.length_singleton, show ((A.length + 1 : Nat) : Int) = (A.length : Int) + 1 by omega] at ih
    have e1 : i + 1 - 1 = i := by omega
    have he := fun Q => s6_endsAt (sc := sc) (Q := Q) (i := i) hX hT hxr (by omega)
    rw [fE_c] at hQ
    rw [w_147_38]
    by_cases c1 : eA T i x.2.1 = true
    · rw [if_pos c1] at hQ
      have hle := eA_nd (wd_pos hxo) c1
      have b1 := hk (i + 1 - nd x.2.1) (by omega) (by omega)
      have b2 := hf (i + 1 - nd x.2.1) (by omega) (by omega)
      have b3 := hg (i + 1 - nd x.2.1) (by omega) (by omega)
      have b4 := hf (i + 1) (by omega) (by omega)
      have b5 := hg (i + 1) (by omega) (by omega)
      have b6 := hk (i + 1) (by omega) (by omega)
      have hko := dvX_ok (x := x) hk ⟨hnd.1, hle⟩ hxw.2
      have key : ∀ f' g', agr f' (dvX q.1 q.2 (i + 1) x).1 (i + 1) → agr g' (dvX q.1 q.2 (i + 1) x).2 (i + 1) → ∀ l3 l4 l5, zwp sc 147 38 [some (.inr (.inl (some 24))), some (.inl (i + 1)), some (.inl ((A.length : Int) + 1)), l3, l4, l5] [] (zuH (zuH h 30 (.inr (.inl (61, f')))) 31 (.inr (.inl (61, g')))) Q := by
        intro f' g' a1 a2 l3 l4 l5
        exact ih _ (dvX q.1 q.2 (i + 1) x) f' g' l3 l4 l5 (mY_u hY f' g') a1 a2 hko (fun h'' f'' g'' m2 m3 m4 m5 c1 c2 c3 c4 c5 => hQ h'' f'' g'' m2 m3 m4 m5 c1 c2 c3 c4 (fr_tr (fr_u (fr_u fr_rf (by omega) (by omega)) (by omega) (by omega)) c5))
      by_cases c2 : f (i + 1) < f (i + 1 - nd x.2.1) + x.2.2
      · simp (disch := omega) only [e_147, w_147_39, w_147_40, w_147_41, w_147_42, w_147_43, w_147_44, w_147_45, w_147_46, w_147_47, w_147_48, w_147_49, w_147_50, w_147_51, w_147_52, w_147_53, w_147_54, w_147_55, w_147_56, w_147_57, w_147_58, w_147_59, w_147_60, w_147_61, w_147_62, w_147_63, w_147_64, w_147_65, w_147_66, w_147_67, w_147_68, w_147_69, w_147_70, w_147_71, w_147_72, w_147_73, w_147_74, w_147_75, w_147_76, w_147_77, w_147_78, w_147_79, w_147_80, w_147_81, w_147_82, w_147_83, w_147_84, w_147_85, w_147_86, w_147_87, w_147_88, w_147_89, w_147_90, w_147_91, w_147_92, w_147_93, w_147_94, w_147_95, w_147_96, w_147_97, w_147_98, w_147_99, w_147_100, w_147_101, w_147_102, w_147_103, w_147_104, w_147_105, w_147_106, w_147_107, w_147_108, w_147_109, w_147_110, w_147_111, w_147_112, w_147_113, w_147_114, w_147_115, w_147_116, w_147_117, w_147_118, w_147_119, w_147_120, w_147_121, w_147_122, w_147_123, w_147_124, w_147_125, w_147_126, w_147_127, w_147_128, w_147_129, w_147_130, w_147_131, w_147_132, w_147_133, w_147_134, w_147_135, getK, putK, ialK, iasK, aalK, aasK, alnK, zgt_u, zgt_a, Option.toList_some, Option.toList_none, List.cons_append, List.nil_append, List.map_cons, List.map_nil, List.replicate, ite_true, ite_false, if_true, if_false, List.getElem?_cons_zero, List.getElem?_cons_succ, List.set_cons_zero, List.set_cons_succ, true_and, and_true, beq_self_eq_true, zite, Int.toNat_natCast, if_pos, if_neg, zwr_id, zand, hO, hW, hw, hx, hy, mX_rc hX, e1, he, zb_t c1, s_lettersOf6, h30, h31, Nat.reduceEqDiff]
        refine key _ _ ?_ ?_ _ _ _
        · unfold dvX
          rw [if_pos (by omega), ← b2]
          exact agr_u hf
        · unfold dvX
          rw [if_pos (by omega), ← b3]
          exact agr_u hg
      · by_cases c3 : f (i + 1 - nd x.2.1) + x.2.2 = f (i + 1)
        · by_cases c4 : g (i + 1 - nd x.2.1) + 1 < g (i + 1)
          · simp (disch := omega) only [e_147, w_147_39, w_147_40, w_147_41, w_147_42, w_147_43, w_147_44, w_147_45, w_147_46, w_147_47, w_147_48, w_147_49, w_147_50, w_147_51, w_147_52, w_147_53, w_147_54, w_147_55, w_147_56, w_147_57, w_147_58, w_147_59, w_147_60, w_147_61, w_147_62, w_147_63, w_147_64, w_147_65, w_147_66, w_147_67, w_147_68, w_147_69, w_147_70, w_147_71, w_147_72, w_147_73, w_147_74, w_147_75, w_147_76, w_147_77, w_147_78, w_147_79, w_147_80, w_147_81, w_147_82, w_147_83, w_147_84, w_147_85, w_147_86, w_147_87, w_147_88, w_147_89, w_147_90, w_147_91, w_147_92, w_147_93, w_147_94, w_147_95, w_147_96, w_147_97, w_147_98, w_147_99, w_147_100, w_147_101, w_147_102, w_147_103, w_147_104, w_147_105, w_147_106, w_147_107, w_147_108, w_147_109, w_147_110, w_147_111, w_147_112, w_147_113, w_147_114, w_147_115, w_147_116, w_147_117, w_147_118, w_147_119, w_147_120, w_147_121, w_147_122, w_147_123, w_147_124, w_147_125, w_147_126, w_147_127, w_147_128, w_147_129, w_147_130, w_147_131, w_147_132, w_147_133, w_147_134, w_147_135, getK, putK, ialK, iasK, aalK, aasK, alnK, zgt_u, zgt_a, Option.toList_some, Option.toList_none, List.cons_append, List.nil_append, List.map_cons, List.map_nil, List.replicate, ite_true, ite_false, if_true, if_false, List.getElem?_cons_zero, List.getElem?_cons_succ, List.set_cons_zero, List.set_cons_succ, true_and, and_true, beq_self_eq_true, zite, Int.toNat_natCast, if_pos, if_neg, zwr_id, zand, hO, hW, hw, hx, hy, mX_rc hX, e1, he, zb_t c1, s_lettersOf6, h30, h31, Nat.reduceEqDiff]
            refine key _ _ ?_ ?_ _ _ _
            · unfold dvX
              rw [if_pos (by omega), ← b2]
              exact agr_u hf
            · unfold dvX
              rw [if_pos (by omega), ← b3]
              exact agr_u hg
          · simp (disch := omega) only [e_147, w_147_39, w_147_40, w_147_41, w_147_42, w_147_43, w_147_44, w_147_45, w_147_46, w_147_47, w_147_48, w_147_49, w_147_50, w_147_51, w_147_52, w_147_53, w_147_54, w_147_55, w_147_56, w_147_57, w_147_58, w_147_59, w_147_60, w_147_61, w_147_62, w_147_63, w_147_64, w_147_65, w_147_66, w_147_67, w_147_68, w_147_69, w_147_70, w_147_71, w_147_72, w_147_73, w_147_74, w_147_75, w_147_76, w_147_77, w_147_78, w_147_79, w_147_80, w_147_81, w_147_82, w_147_83, w_147_84, w_147_85, w_147_86, w_147_87, w_147_88, w_147_89, w_147_90, w_147_91, w_147_92, w_147_93, w_147_94, w_147_95, w_147_96, w_147_97, w_147_98, w_147_99, w_147_100, w_147_101, w_147_102, w_147_103, w_147_104, w_147_105, w_147_106, w_147_107, w_147_108, w_147_109, w_147_110, w_147_111, w_147_112, w_147_113, w_147_114, w_147_115, w_147_116, w_147_117, w_147_118, w_147_119, w_147_120, w_147_121, w_147_122, w_147_123, w_147_124, w_147_125, w_147_126, w_147_127, w_147_128, w_147_129, w_147_130, w_147_131, w_147_132, w_147_133, w_147_134, w_147_135, getK, putK, ialK, iasK, aalK, aasK, alnK, zgt_u, zgt_a, Option.toList_some, Option.toList_none, List.cons_append, List.nil_append, List.map_cons, List.map_nil, List.replicate, ite_true, ite_false, if_true, if_false, List.getElem?_cons_zero, List.getElem?_cons_succ, List.set_cons_zero, List.set_cons_succ, true_and, and_true, beq_self_eq_true, zite, Int.toNat_natCast, if_pos, if_neg, zwr_id, zand, hO, hW, hw, hx, hy, mX_rc hX, e1, he, zb_t c1, s_lettersOf6, h30, h31, Nat.reduceEqDiff]
            refine key _ _ ?_ ?_ _ _ _
            · unfold dvX
              rw [if_neg (by omega)]
              exact agr_s hf
            · unfold dvX
              rw [if_neg (by omega)]
              exact agr_s hg
        · simp (disch := omega) only [e_147, w_147_39, w_147_40, w_147_41, w_147_42, w_147_43, w_147_44, w_147_45, w_147_46, w_147_47, w_147_48, w_147_49, w_147_50, w_147_51, w_147_52, w_147_53, w_147_54, w_147_55, w_147_56, w_147_57, w_147_58, w_147_59, w_147_60, w_147_61, w_147_62, w_147_63, w_147_64, w_147_65, w_147_66, w_147_67, w_147_68, w_147_69, w_147_70, w_147_71, w_147_72, w_147_73, w_147_74, w_147_75, w_147_76, w_147_77, w_147_78, w_147_79, w_147_80, w_147_81, w_147_82, w_147_83, w_147_84, w_147_85, w_147_86, w_147_87, w_147_88, w_147_89, w_147_90, w_147_91, w_147_92, w_147_93, w_147_94, w_147_95, w_147_96, w_147_97, w_147_98, w_147_99, w_147_100, w_147_101, w_147_102, w_147_103, w_147_104, w_147_105, w_147_106, w_147_107, w_147_108, w_147_109, w_147_110, w_147_111, w_147_112, w_147_113, w_147_114, w_147_115, w_147_116, w_147_117, w_147_118, w_147_119, w_147_120, w_147_121, w_147_122, w_147_123, w_147_124, w_147_125, w_147_126, w_147_127, w_147_128, w_147_129, w_147_130, w_147_131, w_147_132, w_147_133, w_147_134, w_147_135, getK, putK, ialK, iasK, aalK, aasK, alnK, zgt_u, zgt_a, Option.toList_some, Option.toList_none, List.cons_append, List.nil_append, List.map_cons, List.map_nil, List.replicate, ite_true, ite_false, if_true, if_false, List.getElem?_cons_zero, List.getElem?_cons_succ, List.set_cons_zero, List.set_cons_succ, true_and, and_true, beq_self_eq_true, zite, Int.toNat_natCast, if_pos, if_neg, zwr_id, zand, hO, hW, hw, hx, hy, mX_rc hX, e1, he, zb_t c1, s_lettersOf6, h30, h31, Nat.reduceEqDiff]
          refine key _ _ ?_ ?_ _ _ _
          · unfold dvX
            rw [if_neg (by omega)]
            exact agr_s hf
          · unfold dvX
            rw [if_neg (by omega)]
            exact agr_s hg
    · rw [if_neg c1] at hQ
      simp (disch := omega) only [e_147, w_147_39, w_147_40, w_147_41, w_147_42, w_147_43, w_147_44, w_147_45, w_147_46, w_147_47, w_147_48, w_147_49, w_147_50, w_147_51, w_147_52, w_147_53, w_147_54, w_147_55, w_147_56, w_147_57, w_147_58, w_147_59, w_147_60, w_147_61, w_147_62, w_147_63, w_147_64, w_147_65, w_147_66, w_147_67, w_147_68, w_147_69, w_147_70, w_147_71, w_147_72, w_147_73, w_147_74, w_147_75, w_147_76, w_147_77, w_147_78, w_147_79, w_147_80, w_147_81, w_147_82, w_147_83, w_147_84, w_147_85, w_147_86, w_147_87, w_147_88, w_147_89, w_147_90, w_147_91, w_147_92, w_147_93, w_147_94, w_147_95, w_147_96, w_147_97, w_147_98, w_147_99, w_147_100, w_147_101, w_147_102, w_147_103, w_147_104, w_147_105, w_147_106, w_147_107, w_147_108, w_147_109, w_147_110, w_147_111, w_147_112, w_147_113, w_147_114, w_147_115, w_147_116, w_147_117, w_147_118, w_147_119, w_147_120, w_147_121, w_147_122, w_147_123, w_147_124, w_147_125, w_147_126, w_147_127, w_147_128, w_147_129, w_147_130, w_147_131, w_147_132, w_147_133, w_147_134, w_147_135, getK, putK, ialK, iasK, aalK, aasK, alnK, zgt_u, zgt_a, Option.toList_some, Option.toList_none, List.cons_append, List.nil_append, List.map_cons, List.map_nil, List.replicate, ite_true, ite_false, if_true, if_false, List.getElem?_cons_zero, List.getElem?_cons_succ, List.set_cons_zero, List.set_cons_succ, true_and, and_true, beq_self_eq_true, zite, Int.toNat_natCast, if_pos, if_neg, zwr_id, zand, hO, hW, hw, hx, hy, mX_rc hX, e1, he, zb_f c1]
      exact ih h q f g _ _ _ hY hf hg hk hQ
theorem lp_lay0 (hT : okT T n) (hV : lvO w L) : ∀ (j m : Nat) (h : zH) (f g : Int → Int) (l2 l3 l4 l5 : Option zV), (m : Int) + j = n → mY h pm fl p n w T f g → agr f (dvR (fun i => fE T i L) m).1 m → agr g (dvR (fun i => fE T i L) m).2 m → dvOk (dvR (fun i => fE T i L) m) m → (∀ h' f' g', mY h' pm fl p n w T f' g' → agr f' (dvR (fun i => fE T i L) n.toNat).1 n → agr g' (dvR (fun i => fE T i L) n.toNat).2 n → fr h h' 30 2 → Q none h') → zwp sc 147 12 [some (.inr (.inl (some 24))), some (.inl ((m : Int) + 1)), l2, l3, l4, l5] [] h Q := by
  have h60 := hT.2.1
  intro j
  induction j with
  | zero =>
    intro m h f g l2 l3 l4 l5 hm hY hf hg hk hQ
    obtain ⟨⟨hO, hW, hX4⟩, h30, h31⟩ := id hY
    have e : n.toNat = m := by omega
    have e2 : n = m := by omega
    have := hQ h f g hY (by rw [e, e2]; exact hf) (by rw [e, e2]; exact hg) fr_rf
    rw [w_147_12]
    simp (disch := omega) only [e_147, w_147_0, w_147_1, w_147_2, w_147_3, w_147_4, w_147_5, w_147_6, w_147_7, w_147_8, w_147_9, w_147_10, w_147_11, w_147_13, w_147_14, w_147_15, w_147_16, w_147_17, w_147_18, w_147_19, w_147_20, w_147_21, w_147_22, w_147_23, w_147_24, w_147_25, w_147_26, w_147_27, w_147_28, w_147_29, w_147_30, w_147_31, w_147_32, w_147_33, w_147_34, w_147_35, w_147_36, w_147_37, w_147_39, w_147_40, w_147_41, w_147_42, w_147_43, w_147_44, w_147_45, w_147_46, w_147_47, w_147_48, w_147_49, w_147_50, w_147_51, w_147_52, w_147_53, w_147_54, w_147_55, w_147_56, w_147_57, w_147_58, w_147_59, w_147_60, w_147_61, w_147_62, w_147_63, w_147_64, w_147_65, w_147_66, w_147_67, w_147_68, w_147_69, w_147_70, w_147_71, w_147_72, w_147_73, w_147_74, w_147_75, w_147_76, w_147_77, w_147_78, w_147_79, w_147_80, w_147_81, w_147_82, w_147_83, w_147_84, w_147_85, w_147_86, w_147_87, w_147_88, w_147_89, w_147_90, w_147_91, w_147_92, w_147_93, w_147_94, w_147_95, w_147_96, w_147_97, w_147_98, w_147_99, w_147_100, w_147_101, w_147_102, w_147_103, w_147_104, w_147_105, w_147_106, w_147_107, w_147_108, w_147_109, w_147_110, w_147_111, w_147_112, w_147_113, w_147_114, w_147_115, w_147_116, w_147_117, w_147_118, w_147_119, w_147_120, w_147_121, w_147_122, w_147_123, w_147_124, w_147_125, w_147_126, w_147_127, w_147_128, w_147_129, w_147_130, w_147_131, w_147_132, w_147_133, w_147_134, w_147_135, w_147_136, w_147_137, w_147_138, getK, putK, ialK, iasK, aalK, aasK, alnK, zgt_u, zgt_a, Option.toList_some, Option.toList_none, List.cons_append, List.nil_append, List.map_cons, List.map_nil, List.replicate, ite_true, ite_false, if_true, if_false, List.getElem?_cons_zero, List.getElem?_cons_succ, List.set_cons_zero, List.set_cons_succ, true_and, and_true, beq_self_eq_true, zite, Int.toNat_natCast, if_pos, if_neg, zwr_id, zand, hO]
    exact this
  | succ j ih =>
    intro m h f g l2 l3 l4 l5 hm hY hf hg hk hQ
    obtain ⟨⟨hO, hW, hX4⟩, h30, h31⟩ := id hY
    have b1 := hf m (by omega) (by omega)
    have b2 := hg m (by omega) (by omega)
    have b3 := hk m (by omega) (by omega)
    rw [w_147_12]
    simp (disch := omega) only [e_147, w_147_13, w_147_14, w_147_15, w_147_16, w_147_17, w_147_18, w_147_19, w_147_20, w_147_21, w_147_22, w_147_23, w_147_24, w_147_25, w_147_26, w_147_27, w_147_28, w_147_29, w_147_30, w_147_31, w_147_32, w_147_33, w_147_34, w_147_35, w_147_36, w_147_37, getK, putK, ialK, iasK, aalK, aasK, alnK, zgt_u, zgt_a, Option.toList_some, Option.toList_none, List.cons_append, List.nil_append, List.map_cons, List.map_nil, List.replicate, ite_true, ite_false, if_true, if_false, List.getElem?_cons_zero, List.getElem?_cons_succ, List.set_cons_zero, List.set_cons_succ, true_and, and_true, beq_self_eq_true, zite, Int.toNat_natCast, if_pos, if_neg, zwr_id, zand, hO, h30, h31, Int.add_sub_cancel, Nat.reduceEqDiff]
    have hp1 : dvOk (zup (dvR (fun i => fE T i L) m).1 ((m : Int) + 1) ((dvR (fun i => fE T i L) m).1 m), zup (dvR (fun i => fE T i L) m).2 ((m : Int) + 1) ((dvR (fun i => fE T i L) m).2 m)) ((m : Int) + 1) := by
      intro k k0 k1
      by_cases hkn : k = (m : Int) + 1
      · subst hkn
        simp only [zup_s]
        omega
      · simp only [zup_n hkn]
        exact hk k k0 (by omega)
    have ag : ∀ {f F : Int → Int}, agr f F m → agr (zup f ((m : Int) + 1) (f m)) (zup F ((m : Int) + 1) (F m)) ((m : Int) + 1) := by
      intro f F ha k k0 k1
      by_cases hkn : k = (m : Int) + 1
      · rw [hkn, zup_s, zup_s, ha m (by omega) (by omega)]
      · rw [zup_n hkn, zup_n hkn]; exact ha k k0 (by omega)
    have hf1 : fr h (zuH (zuH h 30 (.inr (.inl (61, zup f ((m : Int) + 1) (f m))))) 31 (.inr (.inl (61, zup g ((m : Int) + 1) (g m))))) 30 2 := fr_u (fr_u fr_rf (by omega) (by omega)) (by omega) (by omega)
    refine lp_lay1 hT hV ⟨by omega, by omega⟩ L [] _ _ _ _ _ _ _ rfl (mY_u hY _ _) (ag hf) (ag hg) hp1 (fun h2 f2 g2 m2 m3 m4 m5 q1 q2 q3 q4 q5 => ?_)
    simp (disch := omega) only [e_147, w_147_136, w_147_137, w_147_138, getK, putK, ialK, iasK, aalK, aasK, alnK, zgt_u, zgt_a, Option.toList_some, Option.toList_none, List.cons_append, List.nil_append, List.map_cons, List.map_nil, List.replicate, ite_true, ite_false, if_true, if_false, List.getElem?_cons_zero, List.getElem?_cons_succ, List.set_cons_zero, List.set_cons_succ, true_and, and_true, beq_self_eq_true, zite, Int.toNat_natCast, if_pos, if_neg, zwr_id, zand]
    exact ih (m + 1) h2 f2 g2 m2 m3 m4 m5 (by omega) q1 q2 q3 q4 (fun h' f' g' a1 a2 a3 a4 => hQ h' f' g' a1 a2 a3 (fr_tr (fr_tr hf1 q5) a4))
theorem s6_lay {f g : Int → Int} (hT : okT T n) (hV : lvO w L) (hY : mY h pm fl p n w T f g) (hQ : ∀ h' f' g', mY h' pm fl p n w T f' g' → agr f' (dvR (fun i => fE T i L) n.toNat).1 n → agr g' (dvR (fun i => fE T i L) n.toNat).2 n → fr h h' 30 2 → Q none h') : zca sc 147 [.inr (.inl (some 24))] h Q := by
  obtain ⟨⟨hO, hW, hX4⟩, h30, h31⟩ := id hY
  have h00 := hT.1
  simp (disch := omega) only [e_147, w_147_0, w_147_1, w_147_2, w_147_3, w_147_4, w_147_5, w_147_6, w_147_7, w_147_8, w_147_9, w_147_10, w_147_11, getK, putK, ialK, iasK, aalK, aasK, alnK, zgt_u, zgt_a, Option.toList_some, Option.toList_none, List.cons_append, List.nil_append, List.map_cons, List.map_nil, List.replicate, ite_true, ite_false, if_true, if_false, List.getElem?_cons_zero, List.getElem?_cons_succ, List.set_cons_zero, List.set_cons_succ, true_and, and_true, beq_self_eq_true, zite, Int.toNat_natCast, if_pos, if_neg, zwr_id, zand, hO, h30, h31, Nat.reduceEqDiff]
  have ag : ∀ f : Int → Int, agr (zup f 0 0) (fun _ => 0) ((0 : Nat) : Int) := by
    intro f k k0 k1
    rw [show k = 0 by omega, zup_s]
  have := lp_lay0 (sc := sc) (Q := Q) hT hV n.toNat 0 _ _ _ none none none none (by omega) (mY_u hY (zup f 0 0) (zup g 0 0)) (ag f) (ag g) (fun k k0 k1 => by show 0 ≤ (0 : Int) ∧ (0 : Int) ≤ _ ∧ 0 ≤ (0 : Int) ∧ (0 : Int) ≤ k; omega) (fun h' f' g' a1 a2 a3 a4 => hQ h' f' g' a1 a2 a3 (fr_tr (fr_u (fr_u fr_rf (by omega) (by omega)) (by omega) (by omega)) a4))
  exact this
end
section
variable {sc : Nat × (Int → Int)} {h : zH} {Q : Option zV → zH → Prop} {z : zS}
theorem rM_y {h' : zH} (hM : rM h z) (hf : fr h h' 30 2) (h30 : ∃ f, zgt h' 30 = .inr (.inl (61, f))) (h31 : ∃ f, zgt h' 31 = .inr (.inl (61, f))) : rM h' z := by
  obtain ⟨m0, ⟨w, m1, m1'⟩, ⟨pa, m2, m2'⟩, ⟨im, m3, m3'⟩, m4, ⟨f5, m5⟩, -, -⟩ := hM
  refine ⟨?_, ⟨w, ?_, m1'⟩, ⟨pa, ?_, m2'⟩, ⟨im, ?_, m3'⟩, ?_, ⟨f5, ?_⟩, h30, h31⟩
  all_goals rw [hf.2.2 _ (by omega)]; assumption
theorem s6_total {x : Int} (hM : rM h z) (hz : okZ z) (hQ : ∀ h', rM h' z → fr h h' 24 8 → Q (some (.inl (ttS z x))) h') : zca sc 148 [.inr (.inl (some 24)), .inl x] h Q := by
  obtain ⟨w, hX, hV⟩ := mX_of hM hz
  have hT := hz.2.2.2.2.2.2
  have h60 := hT.2.1
  have h00 := hT.1
  obtain ⟨-, -, -, -, -, -, ⟨f6, m6⟩, f7, m7⟩ := id hM
  unfold ttS at hQ
  by_cases h2 : 0 ≤ x ∧ x ≤ 5
  · simp (disch := omega) only [e_148, w_148_0, w_148_1, w_148_2, w_148_3, w_148_4, w_148_5, w_148_6, w_148_7, w_148_8, getK, putK, ialK, iasK, aalK, aasK, alnK, zgt_u, zgt_a, Option.toList_some, Option.toList_none, List.cons_append, List.nil_append, List.map_cons, List.map_nil, List.replicate, ite_true, ite_false, if_true, if_false, List.getElem?_cons_zero, List.getElem?_cons_succ, List.set_cons_zero, List.set_cons_succ, true_and, and_true, beq_self_eq_true, zite, Int.toNat_natCast, if_pos, if_neg, zwr_id, zand, s_isIn, zb_eq, zb_ne, mX_rc hX]
    refine s6_lay hT hV ⟨hX, m6, m7⟩ (fun h' f' g' a1 a2 a3 a4 => ?_)
    have hX' := a1.1
    have hM' : rM h' z := rM_y hM a4 ⟨f', a1.2.1⟩ ⟨g', a1.2.2⟩
    have hQ := hQ h' hM' (fr_wd a4 (by omega) (by omega))
    have hO := hX'.1
    have h30 := a1.2.1
    have h31 := a1.2.2
    by_cases k0 : x = 0
    · subst k0
      rw [if_pos rfl] at hQ
      simp (disch := omega) only [e_148, w_148_0, w_148_1, w_148_2, w_148_3, w_148_4, w_148_5, w_148_6, w_148_7, w_148_8, w_148_9, w_148_10, w_148_11, w_148_12, w_148_13, w_148_14, w_148_15, w_148_16, w_148_17, w_148_18, w_148_19, w_148_20, w_148_21, w_148_22, w_148_23, w_148_24, w_148_25, w_148_26, w_148_27, w_148_28, w_148_29, w_148_30, w_148_31, w_148_32, w_148_33, w_148_34, getK, putK, ialK, iasK, aalK, aasK, alnK, zgt_u, zgt_a, Option.toList_some, Option.toList_none, List.cons_append, List.nil_append, List.map_cons, List.map_nil, List.replicate, ite_true, ite_false, if_true, if_false, List.getElem?_cons_zero, List.getElem?_cons_succ, List.set_cons_zero, List.set_cons_succ, true_and, and_true, beq_self_eq_true, zite, Int.toNat_natCast, if_pos, if_neg, zwr_id, zand, mX_rc hX', s6_matches hX' hT hV, mtS_m hz]
      exact hQ
    rw [if_neg k0] at hQ
    by_cases k1 : x = 1
    · subst k1
      rw [if_pos rfl] at hQ
      simp (disch := omega) only [e_148, w_148_0, w_148_1, w_148_2, w_148_3, w_148_4, w_148_5, w_148_6, w_148_7, w_148_8, w_148_9, w_148_10, w_148_11, w_148_12, w_148_13, w_148_14, w_148_15, w_148_16, w_148_17, w_148_18, w_148_19, w_148_20, w_148_21, w_148_22, w_148_23, w_148_24, w_148_25, w_148_26, w_148_27, w_148_28, w_148_29, w_148_30, w_148_31, w_148_32, w_148_33, w_148_34, getK, putK, ialK, iasK, aalK, aasK, alnK, zgt_u, zgt_a, Option.toList_some, Option.toList_none, List.cons_append, List.nil_append, List.map_cons, List.map_nil, List.replicate, ite_true, ite_false, if_true, if_false, List.getElem?_cons_zero, List.getElem?_cons_succ, List.set_cons_zero, List.set_cons_succ, true_and, and_true, beq_self_eq_true, zite, Int.toNat_natCast, if_pos, if_neg, zwr_id, zand, mX_rc hX', s6_weights hX' hT hV, wmS_m hz]
      exact hQ
    rw [if_neg k1] at hQ
    by_cases k2 : x = 2
    · subst k2
      rw [if_pos rfl, clR_0 (fun k => (loD_b _ _ k 6).1) (fun k => (loD_b _ _ k 6).2) h00] at hQ
      simp (disch := omega) only [e_148, w_148_0, w_148_1, w_148_2, w_148_3, w_148_4, w_148_5, w_148_6, w_148_7, w_148_8, w_148_9, w_148_10, w_148_11, w_148_12, w_148_13, w_148_14, w_148_15, w_148_16, w_148_17, w_148_18, w_148_19, w_148_20, w_148_21, w_148_22, w_148_23, w_148_24, w_148_25, w_148_26, w_148_27, w_148_28, w_148_29, w_148_30, w_148_31, w_148_32, w_148_33, w_148_34, getK, putK, ialK, iasK, aalK, aasK, alnK, zgt_u, zgt_a, Option.toList_some, Option.toList_none, List.cons_append, List.nil_append, List.map_cons, List.map_nil, List.replicate, ite_true, ite_false, if_true, if_false, List.getElem?_cons_zero, List.getElem?_cons_succ, List.set_cons_zero, List.set_cons_succ, true_and, and_true, beq_self_eq_true, zite, Int.toNat_natCast, if_pos, if_neg, zwr_id, zand, mX_rc hX', s6_covered hX' hT hV]
      exact hQ
    rw [if_neg k2] at hQ
    by_cases k3 : x = 3
    · subst k3
      rw [if_pos rfl, hv_eq _ _ _ _ (Int.le_refl _) (fun q => absurd rfl q), hvM_cg (f := fun i => wsum (fE z.T i z.S.1)) _ _ _ (fun k a b => by rw [mN_z hz (by omega)]) (Int.le_refl _) (Or.inl rfl)] at hQ
      simp (disch := omega) only [e_148, w_148_0, w_148_1, w_148_2, w_148_3, w_148_4, w_148_5, w_148_6, w_148_7, w_148_8, w_148_9, w_148_10, w_148_11, w_148_12, w_148_13, w_148_14, w_148_15, w_148_16, w_148_17, w_148_18, w_148_19, w_148_20, w_148_21, w_148_22, w_148_23, w_148_24, w_148_25, w_148_26, w_148_27, w_148_28, w_148_29, w_148_30, w_148_31, w_148_32, w_148_33, w_148_34, getK, putK, ialK, iasK, aalK, aasK, alnK, zgt_u, zgt_a, Option.toList_some, Option.toList_none, List.cons_append, List.nil_append, List.map_cons, List.map_nil, List.replicate, ite_true, ite_false, if_true, if_false, List.getElem?_cons_zero, List.getElem?_cons_succ, List.set_cons_zero, List.set_cons_succ, true_and, and_true, beq_self_eq_true, zite, Int.toNat_natCast, if_pos, if_neg, zwr_id, zand, mX_rc hX', s6_heaviest hX' hT hV]
      exact hQ
    rw [if_neg k3] at hQ
    have e : dvR (fun i => mN z.S.1 z.T i 6 1) z.n.toNat = dvR (fun i => fE z.T i z.S.1) z.n.toNat := dvL_cg _ (fun k a b => mN_z hz (by omega))
    rw [e] at hQ
    by_cases k4 : x = 4
    · subst k4
      rw [if_pos rfl, ← a2 z.n h00 (Int.le_refl _)] at hQ
      simp (disch := omega) only [e_148, w_148_0, w_148_1, w_148_2, w_148_3, w_148_4, w_148_5, w_148_6, w_148_7, w_148_8, w_148_9, w_148_10, w_148_11, w_148_12, w_148_13, w_148_14, w_148_15, w_148_16, w_148_17, w_148_18, w_148_19, w_148_20, w_148_21, w_148_22, w_148_23, w_148_24, w_148_25, w_148_26, w_148_27, w_148_28, w_148_29, w_148_30, w_148_31, w_148_32, w_148_33, w_148_34, getK, putK, ialK, iasK, aalK, aasK, alnK, zgt_u, zgt_a, Option.toList_some, Option.toList_none, List.cons_append, List.nil_append, List.map_cons, List.map_nil, List.replicate, ite_true, ite_false, if_true, if_false, List.getElem?_cons_zero, List.getElem?_cons_succ, List.set_cons_zero, List.set_cons_succ, true_and, and_true, beq_self_eq_true, zite, Int.toNat_natCast, if_pos, if_neg, zwr_id, zand, hO, h30]
      exact hQ
    rw [if_neg k4] at hQ
    have k5 : x = 5 := by omega
    subst k5
    rw [if_pos rfl, ← a3 z.n h00 (Int.le_refl _)] at hQ
    simp (disch := omega) only [e_148, w_148_0, w_148_1, w_148_2, w_148_3, w_148_4, w_148_5, w_148_6, w_148_7, w_148_8, w_148_9, w_148_10, w_148_11, w_148_12, w_148_13, w_148_14, w_148_15, w_148_16, w_148_17, w_148_18, w_148_19, w_148_20, w_148_21, w_148_22, w_148_23, w_148_24, w_148_25, w_148_26, w_148_27, w_148_28, w_148_29, w_148_30, w_148_31, w_148_32, w_148_33, w_148_34, getK, putK, ialK, iasK, aalK, aasK, alnK, zgt_u, zgt_a, Option.toList_some, Option.toList_none, List.cons_append, List.nil_append, List.map_cons, List.map_nil, List.replicate, ite_true, ite_false, if_true, if_false, List.getElem?_cons_zero, List.getElem?_cons_succ, List.set_cons_zero, List.set_cons_succ, true_and, and_true, beq_self_eq_true, zite, Int.toNat_natCast, if_pos, if_neg, zwr_id, zand, hO, h31]
    exact hQ
  · rw [if_neg (by omega), if_neg (by omega), if_neg (by omega), if_neg (by omega), if_neg (by omega), if_neg (by omega)] at hQ
    simp (disch := omega) only [e_148, w_148_0, w_148_1, w_148_2, w_148_3, w_148_4, w_148_5, w_148_6, w_148_7, w_148_8, w_148_9, w_148_10, w_148_11, w_148_12, w_148_13, w_148_14, w_148_15, w_148_16, w_148_17, w_148_18, w_148_19, w_148_20, w_148_21, w_148_22, w_148_23, w_148_24, w_148_25, w_148_26, w_148_27, w_148_28, w_148_29, w_148_30, w_148_31, w_148_32, w_148_33, w_148_34, getK, putK, ialK, iasK, aalK, aasK, alnK, zgt_u, zgt_a, Option.toList_some, Option.toList_none, List.cons_append, List.nil_append, List.map_cons, List.map_nil, List.replicate, ite_true, ite_false, if_true, if_false, List.getElem?_cons_zero, List.getElem?_cons_succ, List.set_cons_zero, List.set_cons_succ, true_and, and_true, beq_self_eq_true, zite, Int.toNat_natCast, if_pos, if_neg, zwr_id, zand, s_isIn, zb_eq, zb_ne]
    exact hQ h hM fr_rf
end
