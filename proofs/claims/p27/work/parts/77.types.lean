/-! The law: what is typed -/
set_option maxRecDepth 100000 in
theorem yft_w : ∀ (w : yW) (r : List Int) (n l i : Int), yltW w → 0 ≤ l → l + w.length ≤ 12 → yft ((w.map fun (x : Nat) => (x : Int) + 103) ++ r) n l i = yft r n (l + w.length) (i + w.length) := by
  intro w
  induction w with
  | nil =>
    intro r n l i _ _ _
    show yft r n l i = yft r n (l + ((0 : Nat) : Int)) (i + ((0 : Nat) : Int))
    congr 1 <;> omega
  | cons x w ih =>
    intro r n l i hw h0 hl
    rw [List.length_cons] at hl
    have hx := hw x (List.mem_cons_self)
    have e : yft (((x :: w).map fun (x : Nat) => (x : Int) + 103) ++ r) n l i = if (x : Int) + 103 = 47 ∧ 0 < l ∧ n < 12 then yft ((w.map fun (x : Nat) => (x : Int) + 103) ++ r) (n + 1) 0 (i + 1) else if (103 ≤ (x : Int) + 103 ∧ (x : Int) + 103 ≤ 122) ∧ l < 12 then yft ((w.map fun (x : Nat) => (x : Int) + 103) ++ r) n (l + 1) (i + 1) else i := rfl
    rw [e, if_neg (by omega), if_pos ⟨by omega, by omega⟩, ih r n (l + 1) (i + 1) (fun y hy => hw y (List.mem_cons_of_mem _ hy)) (by omega) (by omega), List.length_cons]
    congr 1 <;> omega
set_option maxRecDepth 100000 in
theorem yft_t : ∀ (ws : yF) (n i : Int), yokF ws → 1 ≤ ws.length → 1 ≤ n → n + ws.length ≤ 13 → yft (ytx ws) n 0 i = -6 := by
  intro ws
  induction ws with
  | nil => intro n i _ h1; exact absurd h1 (by simp)
  | cons w r ih =>
    intro n i hw h1 hn hl
    have hk := hw w (List.mem_cons_self)
    cases r with
    | nil =>
      have e : ytx [w] = (w.map fun (x : Nat) => (x : Int) + 103) ++ [] := by rw [List.append_nil]; rfl
      rw [e, yft_w w [] n 0 i hk.2 (Int.le_refl _) (by have := hk.1.2; omega)]
      show (if (0 : Int) + (w.length : Int) = 0 then i + (w.length : Int) else -6) = -6
      rw [if_neg (by have := hk.1.1; omega)]
    | cons v r =>
      have e : ytx (w :: v :: r) = (w.map fun (x : Nat) => (x : Int) + 103) ++ 47 :: ytx (v :: r) := rfl
      rw [e, yft_w w _ n 0 i hk.2 (Int.le_refl _) (by have := hk.1.2; omega)]
      have e2 : yft (47 :: ytx (v :: r)) n (0 + (w.length : Int)) (i + (w.length : Int)) = if (47 : Int) = 47 ∧ 0 < (0 + (w.length : Int)) ∧ n < 12 then yft (ytx (v :: r)) (n + 1) 0 (i + (w.length : Int) + 1) else if (103 ≤ (47 : Int) ∧ (47 : Int) ≤ 122) ∧ 0 + (w.length : Int) < 12 then yft (ytx (v :: r)) n (0 + (w.length : Int) + 1) (i + (w.length : Int) + 1) else i + (w.length : Int) := rfl
      rw [List.length_cons, List.length_cons] at hl
      rw [e2, if_pos ⟨rfl, by have := hk.1.1; omega, by omega⟩]
      exact ih (n + 1) _ (fun u hu => hw u (List.mem_cons_of_mem _ hu)) (by rw [List.length_cons]; omega) (by omega) (by rw [List.length_cons]; omega)
abbrev ywm (w : yW) : List Int := w.map fun (x : Nat) => (x : Int) + 103
set_option maxRecDepth 100000 in
theorem ytx_snoc : ∀ (ps : yF) (w : yW), ps ≠ [] → ytx (ps ++ [w]) = ytx ps ++ 47 :: ywm w := by
  intro ps
  induction ps with
  | nil => intro w h; exact absurd rfl h
  | cons v r ih =>
    intro w _
    cases r with
    | nil => rfl
    | cons u r =>
      show ywm v ++ 47 :: ytx ((u :: r) ++ [w]) = (ywm v ++ 47 :: ytx (u :: r)) ++ 47 :: ywm w
      rw [ih w (by simp), List.append_assoc]
      rfl
set_option maxRecDepth 100000 in
theorem ytx_le : ∀ ps : yF, (∀ u ∈ ps, y4 u) → (ytx ps).length ≤ 5 * ps.length := by
  intro ps
  induction ps with
  | nil => intro _; exact Nat.le_refl _
  | cons v r ih =>
    intro h
    have hv := (h v (List.mem_cons_self)).2
    have hr := ih (fun u hu => h u (List.mem_cons_of_mem _ hu))
    cases r with
    | nil =>
      show (ywm v).length ≤ 5 * 1
      rw [List.length_map]; omega
    | cons u r =>
      show (ywm v ++ 47 :: ytx (u :: r)).length ≤ _
      rw [List.length_append, List.length_map, List.length_cons, List.length_cons]
      omega
set_option maxRecDepth 100000 in
theorem yokP_t {ps : yF} (h : ∀ u ∈ ps, y4 u) (h1 : 1 ≤ ps.length) (h4 : ps.length ≤ 4) : yokP (ytx ps) ps := ⟨yft_t ps 1 0 (y4_F h) h1 (by omega) (by omega), rfl, y4_F h, h1, by omega⟩
section
variable {L : Nat} {xs : Nat → Int32} {A : yA} {q en me se : Nat → Int} {h : zH}
set_option maxRecDepth 100000 in
theorem L_put (w : Wd L xs A q en me se h) (y : Nat) (hy : 33 ≤ y ∧ y ≤ 126) (hl : (aP A).length + 1 ≤ 80) (Q : zQ) (hQ : ∀ h2, Wd L xs (aS A, aP A ++ [(y : Int)], aL A, a6 A, a7 A) q en me se h2 → Q (some (vI (((aP A).length : Int) + 1))) h2) : Ca 79 [vR 3, vJ y] h Q := by
  have e1 : ysi y 0 8 = 1 := by
    have e : ysi y 0 8 = if y = 0 then 0 else if 33 ≤ y % 256 ∧ y % 256 ≤ 126 then ysi (y / 256) (0 + 1) 7 else 0 := rfl
    rw [e, if_neg (by omega), if_pos (by omega), show y / 256 = 0 by omega]
    rfl
  have e2 : ypb y 1 = [(y : Int)] := by
    show [((y / 256 ^ 0 % 256 : Nat) : Int)] = _
    rw [Nat.pow_zero, Nat.div_one, show y % 256 = y by omega]
  refine W_call w (fun F J V P k c => (p_put k c y (by omega)).2.2 1 e1 (by omega) hl) Q ?_
  intro h2 w2
  rw [e2] at w2 ⊢
  have c3 := hQ h2 w2
  have e3 : (((aP A ++ [(y : Int)]).length : Nat) : Int) = ((aP A).length : Int) + 1 := by rw [List.length_append, List.length_singleton]; omega
  rw [e3]
  exact c3
set_option maxRecDepth 100000 in
theorem L_types_l (u : yW) (hu : y4 u) (Q : zQ) (hQ : ∀ h2, Wd L xs (aS A, aP A ++ ywm u, aL A, a6 A, a7 A) q en me se h2 → Q (some (vI 1)) h2) (hl : (aP A).length + u.length ≤ 80) : ∀ (d i : Nat) (h : zH), i + d = u.length → Wd L xs (aS A, aP A ++ ywm (u.take i), aL A, a6 A, a7 A) q en me se h → Go 117 2 [vR 3, vI (yp u), vI i] [] h Q := by
  intro d
  have u4 := hu.2
  induction d with
  | zero =>
    intro i h hi w
    obtain rfl : i = u.length := by omega
    rw [List.take_length] at w
    have c3 := hQ h w
    have b1 := l_size (h := h) hu
    refine Go_on (fun _ => false) 400 ?_; simp only [Ge_s, eM_s, zct_0, zct_I, zct_P, zct_J, eX_iconst, eX_ldc2w, eX_iload, eX_lload, eX_aload, eX_istore, eX_lstore, eX_astore, eX_iinc, eX_iadd, eX_isub, eX_imul, eX_idiv, eX_irem, eX_iand, eX_ishl, eX_ishr, eX_ixor, eX_ineg, eX_dupx2, eX_pop2, eX_land, eX_lor, eX_lshl, eX_lushr, eX_lcmp, eX_i2l, eX_l2i, eX_dup, eX_dup2, eX_ifCond, eX_ificmp, eX_goto, eX_ifnonnull, eX_tableswitch, eX_invokeinterface, eX_multianewarray, eX_getstatic, eX_iaload, eX_laload, eX_baload, eX_aaload, eX_iastore, eX_bastore, eX_lastore, eX_aastore, eX_arraylength, eX_new, eX_newarray, eX_anewarray, eX_invokevirtual, eX_invokestatic, eX_invokespecial, eX_pop, eX_invokedynamic, eX_ireturn, eX_freturn, eX_lreturn, eX_return, eI_s, eJ_s, eP_s, eSI_s, eSJ_s, eSP_s, eInc_s, eAdd_s, eSub_s, eMul_s, eDiv_s, eRem_s, eAnd_s, eXor_s, eNeg_s, eIshl_s, eIshr_s, eDx2_s, ePo2_s, zan_31, zan_255, zan_1, zan_15, zan_m, eLand_s, eLor_s, eLshl_s, eLushr_s, eLcmp_s, eI2l_s, eL2i_s, eDup_s, eDup2_s, eIf_s, eIc_s, eBr_eq, eBr_ne, eBr_lt, eBr_ge, eBr_gt, eBr_le, eNn_s, eNn_n, eG3_s, eG2_s, eGf_s, eP2_s, ePf_s, eAI2_s, eAZ2_s, eAJ2_s, eAQ2_s, eAI_s, eAZ_s, eAJ_s, eAQ_s, eXI2_s, eXZ2_s, eXJ2_s, eXQ2_s, eXI_s, eXZ_s, eXJ_s, eXQ_s, eL2_s, eLn_s, eNa_i, eNa_z, eNa_j, eNq_s, eK_s, eK_n, eR2_s, eRv_s, eRi_s, eCv_s, eCs_s, eCi_s, ePop_s, eMx_s, eMn_s, eCp_s, eCp2_i, eCp2_j, eJd_1, eJd_2, eJd_3, eRI_s, eRZ_s, eRJ_s, eRV_s, zsg_s, zsg_n, zsg_c, List.set_set, Option.map_some, ne_eq, not_false_eq_true, zfit_0, zfit_1, zfit_12, zkd, ↓reduceIte, zc1_I, zc1_P, zset1, zset2, zclr, List.getElem?_cons_zero, List.getElem?_cons_succ, List.set_cons_zero, List.set_cons_succ, List.length_cons, List.length_nil, List.take_succ_cons, List.take_zero, List.drop_succ_cons, List.drop_zero, List.reverse_cons, List.reverse_nil, List.nil_append, List.cons_append, Option.toList_some, Option.toList_none, Nat.reduceAdd, Nat.reduceSub, Nat.reduceLeDiff, Nat.reduceBEq, Nat.reduceEqDiff, Int.reduceToNat, Bool.or_false, Bool.false_or, Bool.or_true, Bool.true_or, Bool.false_eq_true, if_true, if_false, ite_true, ite_false, and_true, true_and, and_self, reduceCtorEq, Int.reduceLT, Int.reduceLE, Int.reduceNeg, Int.reduceAdd, Int.reduceSub, Int.reduceMul, Nat.le_refl, or_true, true_or, or_self, Int.reduceEq, za_117, zf_104, b1, Int.lt_irrefl]
    ((try unfold zr); (try unfold zix); (repeat' first | exact trivial | assumption | (with_reducible rfl) | omega | (refine And.intro ?_ ?_)))
  | succ d ih =>
    intro i h hi w
    have e1 : (i : Int) < u.length := by omega
    have k3 := W_3 w
    have b1 := l_size (h := h) hu
    have b2 := l_letter (h := h) hu i (by omega)
    have r1 := ltr_r u hu.1.2 i
    have r0 : 0 ≤ ltr u i := r1.1
    have ey : ((103 + ltr u i) % 18446744073709551616).toNat = 103 + u.getD i 0 := by
      have : ltr u i = ((u.getD i 0 : Nat) : Int) := rfl
      omega
    have e5 : u.getD i 0 < 20 := by
      have : ltr u i = ((u.getD i 0 : Nat) : Int) := rfl
      omega
    have et : ywm (u.take (i + 1)) = ywm (u.take i) ++ [((103 + u.getD i 0 : Nat) : Int)] := by
      rw [y_take_snoc (by omega)]
      unfold ywm
      rw [List.map_append]
      show _ ++ [((u.getD i 0 : Nat) : Int) + 103] = _
      rw [show ((103 + u.getD i 0 : Nat) : Int) = ((u.getD i 0 : Nat) : Int) + 103 by omega]
    have el : (aP A ++ ywm (u.take i)).length = (aP A).length + i := by
      rw [List.length_append, List.length_map, List.length_take]
      omega
    have c3 : Ca 79 [vR 3, vJ (103 + u.getD i 0)] h (eK (fun pc ls st h => Go 117 pc ls st h Q) 23 [vR 3, vI (yp u), vI i] []) := by
      refine L_put w (103 + u.getD i 0) (by omega) (by show (aP A ++ ywm (u.take i)).length + 1 ≤ 80; omega) _ ?_
      intro h2 w2
      rw [eK_s]
      have w2 : Wd L xs (aS A, (aP A ++ ywm (u.take i)) ++ [((103 + u.getD i 0 : Nat) : Int)], aL A, a6 A, a7 A) q en me se h2 := w2
      rw [List.append_assoc, ← et] at w2
      have c4 := ih (i + 1) h2 (by omega) w2
      show Go 117 23 [vR 3, vI (yp u), vI i] [vI (((aP A ++ ywm (u.take i)).length : Int) + 1)] h2 Q
      rw [el]
      have n1 : ¬ (((aP A).length + i : Nat) : Int) + 1 < 1 := by omega
      refine Go_on (fun p => p == 2) 400 ?_; simp only [Ge_s, eM_s, zct_0, zct_I, zct_P, zct_J, eX_iconst, eX_ldc2w, eX_iload, eX_lload, eX_aload, eX_istore, eX_lstore, eX_astore, eX_iinc, eX_iadd, eX_isub, eX_imul, eX_idiv, eX_irem, eX_iand, eX_ishl, eX_ishr, eX_ixor, eX_ineg, eX_dupx2, eX_pop2, eX_land, eX_lor, eX_lshl, eX_lushr, eX_lcmp, eX_i2l, eX_l2i, eX_dup, eX_dup2, eX_ifCond, eX_ificmp, eX_goto, eX_ifnonnull, eX_tableswitch, eX_invokeinterface, eX_multianewarray, eX_getstatic, eX_iaload, eX_laload, eX_baload, eX_aaload, eX_iastore, eX_bastore, eX_lastore, eX_aastore, eX_arraylength, eX_new, eX_newarray, eX_anewarray, eX_invokevirtual, eX_invokestatic, eX_invokespecial, eX_pop, eX_invokedynamic, eX_ireturn, eX_freturn, eX_lreturn, eX_return, eI_s, eJ_s, eP_s, eSI_s, eSJ_s, eSP_s, eInc_s, eAdd_s, eSub_s, eMul_s, eDiv_s, eRem_s, eAnd_s, eXor_s, eNeg_s, eIshl_s, eIshr_s, eDx2_s, ePo2_s, zan_31, zan_255, zan_1, zan_15, zan_m, eLand_s, eLor_s, eLshl_s, eLushr_s, eLcmp_s, eI2l_s, eL2i_s, eDup_s, eDup2_s, eIf_s, eIc_s, eBr_eq, eBr_ne, eBr_lt, eBr_ge, eBr_gt, eBr_le, eNn_s, eNn_n, eG3_s, eG2_s, eGf_s, eP2_s, ePf_s, eAI2_s, eAZ2_s, eAJ2_s, eAQ2_s, eAI_s, eAZ_s, eAJ_s, eAQ_s, eXI2_s, eXZ2_s, eXJ2_s, eXQ2_s, eXI_s, eXZ_s, eXJ_s, eXQ_s, eL2_s, eLn_s, eNa_i, eNa_z, eNa_j, eNq_s, eK_s, eK_n, eR2_s, eRv_s, eRi_s, eCv_s, eCs_s, eCi_s, ePop_s, eMx_s, eMn_s, eCp_s, eCp2_i, eCp2_j, eJd_1, eJd_2, eJd_3, eRI_s, eRZ_s, eRJ_s, eRV_s, zsg_s, zsg_n, zsg_c, List.set_set, Option.map_some, ne_eq, not_false_eq_true, zfit_0, zfit_1, zfit_12, zkd, ↓reduceIte, zc1_I, zc1_P, zset1, zset2, zclr, List.getElem?_cons_zero, List.getElem?_cons_succ, List.set_cons_zero, List.set_cons_succ, List.length_cons, List.length_nil, List.take_succ_cons, List.take_zero, List.drop_succ_cons, List.drop_zero, List.reverse_cons, List.reverse_nil, List.nil_append, List.cons_append, Option.toList_some, Option.toList_none, Nat.reduceAdd, Nat.reduceSub, Nat.reduceLeDiff, Nat.reduceBEq, Nat.reduceEqDiff, Int.reduceToNat, Bool.or_false, Bool.false_or, Bool.or_true, Bool.true_or, Bool.false_eq_true, if_true, if_false, ite_true, ite_false, and_true, true_and, and_self, reduceCtorEq, Int.reduceLT, Int.reduceLE, Int.reduceNeg, Int.reduceAdd, Int.reduceSub, Int.reduceMul, Nat.le_refl, or_true, true_or, or_self, Int.reduceEq, za_117, n1]
      ((try unfold zr); (try unfold zix); (repeat' first | exact trivial | assumption | (with_reducible rfl) | omega | (refine And.intro ?_ ?_)))
    refine Go_on (fun p => p == 23) 400 ?_; simp only [Ge_s, eM_s, zct_0, zct_I, zct_P, zct_J, eX_iconst, eX_ldc2w, eX_iload, eX_lload, eX_aload, eX_istore, eX_lstore, eX_astore, eX_iinc, eX_iadd, eX_isub, eX_imul, eX_idiv, eX_irem, eX_iand, eX_ishl, eX_ishr, eX_ixor, eX_ineg, eX_dupx2, eX_pop2, eX_land, eX_lor, eX_lshl, eX_lushr, eX_lcmp, eX_i2l, eX_l2i, eX_dup, eX_dup2, eX_ifCond, eX_ificmp, eX_goto, eX_ifnonnull, eX_tableswitch, eX_invokeinterface, eX_multianewarray, eX_getstatic, eX_iaload, eX_laload, eX_baload, eX_aaload, eX_iastore, eX_bastore, eX_lastore, eX_aastore, eX_arraylength, eX_new, eX_newarray, eX_anewarray, eX_invokevirtual, eX_invokestatic, eX_invokespecial, eX_pop, eX_invokedynamic, eX_ireturn, eX_freturn, eX_lreturn, eX_return, eI_s, eJ_s, eP_s, eSI_s, eSJ_s, eSP_s, eInc_s, eAdd_s, eSub_s, eMul_s, eDiv_s, eRem_s, eAnd_s, eXor_s, eNeg_s, eIshl_s, eIshr_s, eDx2_s, ePo2_s, zan_31, zan_255, zan_1, zan_15, zan_m, eLand_s, eLor_s, eLshl_s, eLushr_s, eLcmp_s, eI2l_s, eL2i_s, eDup_s, eDup2_s, eIf_s, eIc_s, eBr_eq, eBr_ne, eBr_lt, eBr_ge, eBr_gt, eBr_le, eNn_s, eNn_n, eG3_s, eG2_s, eGf_s, eP2_s, ePf_s, eAI2_s, eAZ2_s, eAJ2_s, eAQ2_s, eAI_s, eAZ_s, eAJ_s, eAQ_s, eXI2_s, eXZ2_s, eXJ2_s, eXQ2_s, eXI_s, eXZ_s, eXJ_s, eXQ_s, eL2_s, eLn_s, eNa_i, eNa_z, eNa_j, eNq_s, eK_s, eK_n, eR2_s, eRv_s, eRi_s, eCv_s, eCs_s, eCi_s, ePop_s, eMx_s, eMn_s, eCp_s, eCp2_i, eCp2_j, eJd_1, eJd_2, eJd_3, eRI_s, eRZ_s, eRJ_s, eRV_s, zsg_s, zsg_n, zsg_c, List.set_set, Option.map_some, ne_eq, not_false_eq_true, zfit_0, zfit_1, zfit_12, zkd, ↓reduceIte, zc1_I, zc1_P, zset1, zset2, zclr, List.getElem?_cons_zero, List.getElem?_cons_succ, List.set_cons_zero, List.set_cons_succ, List.length_cons, List.length_nil, List.take_succ_cons, List.take_zero, List.drop_succ_cons, List.drop_zero, List.reverse_cons, List.reverse_nil, List.nil_append, List.cons_append, Option.toList_some, Option.toList_none, Nat.reduceAdd, Nat.reduceSub, Nat.reduceLeDiff, Nat.reduceBEq, Nat.reduceEqDiff, Int.reduceToNat, Bool.or_false, Bool.false_or, Bool.or_true, Bool.true_or, Bool.false_eq_true, if_true, if_false, ite_true, ite_false, and_true, true_and, and_self, reduceCtorEq, Int.reduceLT, Int.reduceLE, Int.reduceNeg, Int.reduceAdd, Int.reduceSub, Int.reduceMul, Nat.le_refl, or_true, true_or, or_self, Int.reduceEq, za_117, zf_104, zf_105, zf_79, k3, b1, e1, b2, ey]
    ((try unfold zr); (try unfold zix); (repeat' first | exact trivial | assumption | (with_reducible rfl) | omega | (refine And.intro ?_ ?_)))
set_option maxRecDepth 100000 in
theorem L_types (w : Wd L xs A q en me se h) (u : yW) (hu : y4 u) (hl : (aP A).length + u.length ≤ 80) (Q : zQ) (hQ : ∀ h2, Wd L xs (aS A, aP A ++ ywm u, aL A, a6 A, a7 A) q en me se h2 → Q (some (vI 1)) h2) : Ca 117 [vR 3, vI (yp u)] h Q := by
  have w0 : Wd L xs (aS A, aP A ++ ywm (u.take 0), aL A, a6 A, a7 A) q en me se h := by
    have e : aP A ++ ywm (u.take 0) = aP A := List.append_nil _
    rw [e]
    exact w
  have c3 := L_types_l u hu Q hQ hl u.length 0 h (by omega) w0
  have n00 : ((0 : Nat) : Int) = 0 := rfl
  rw [n00] at c3
  rw [ce_117, ← Ge_eq (fun p => p == 2) 117 _ 400]; simp only [Ge_s, eM_s, zct_0, zct_I, zct_P, zct_J, eX_iconst, eX_ldc2w, eX_iload, eX_lload, eX_aload, eX_istore, eX_lstore, eX_astore, eX_iinc, eX_iadd, eX_isub, eX_imul, eX_idiv, eX_irem, eX_iand, eX_ishl, eX_ishr, eX_ixor, eX_ineg, eX_dupx2, eX_pop2, eX_land, eX_lor, eX_lshl, eX_lushr, eX_lcmp, eX_i2l, eX_l2i, eX_dup, eX_dup2, eX_ifCond, eX_ificmp, eX_goto, eX_ifnonnull, eX_tableswitch, eX_invokeinterface, eX_multianewarray, eX_getstatic, eX_iaload, eX_laload, eX_baload, eX_aaload, eX_iastore, eX_bastore, eX_lastore, eX_aastore, eX_arraylength, eX_new, eX_newarray, eX_anewarray, eX_invokevirtual, eX_invokestatic, eX_invokespecial, eX_pop, eX_invokedynamic, eX_ireturn, eX_freturn, eX_lreturn, eX_return, eI_s, eJ_s, eP_s, eSI_s, eSJ_s, eSP_s, eInc_s, eAdd_s, eSub_s, eMul_s, eDiv_s, eRem_s, eAnd_s, eXor_s, eNeg_s, eIshl_s, eIshr_s, eDx2_s, ePo2_s, zan_31, zan_255, zan_1, zan_15, zan_m, eLand_s, eLor_s, eLshl_s, eLushr_s, eLcmp_s, eI2l_s, eL2i_s, eDup_s, eDup2_s, eIf_s, eIc_s, eBr_eq, eBr_ne, eBr_lt, eBr_ge, eBr_gt, eBr_le, eNn_s, eNn_n, eG3_s, eG2_s, eGf_s, eP2_s, ePf_s, eAI2_s, eAZ2_s, eAJ2_s, eAQ2_s, eAI_s, eAZ_s, eAJ_s, eAQ_s, eXI2_s, eXZ2_s, eXJ2_s, eXQ2_s, eXI_s, eXZ_s, eXJ_s, eXQ_s, eL2_s, eLn_s, eNa_i, eNa_z, eNa_j, eNq_s, eK_s, eK_n, eR2_s, eRv_s, eRi_s, eCv_s, eCs_s, eCi_s, ePop_s, eMx_s, eMn_s, eCp_s, eCp2_i, eCp2_j, eJd_1, eJd_2, eJd_3, eRI_s, eRZ_s, eRJ_s, eRV_s, zsg_s, zsg_n, zsg_c, List.set_set, Option.map_some, ne_eq, not_false_eq_true, zfit_0, zfit_1, zfit_12, zkd, ↓reduceIte, zc1_I, zc1_P, zset1, zset2, zclr, List.getElem?_cons_zero, List.getElem?_cons_succ, List.set_cons_zero, List.set_cons_succ, List.length_cons, List.length_nil, List.take_succ_cons, List.take_zero, List.drop_succ_cons, List.drop_zero, List.reverse_cons, List.reverse_nil, List.nil_append, List.cons_append, Option.toList_some, Option.toList_none, Nat.reduceAdd, Nat.reduceSub, Nat.reduceLeDiff, Nat.reduceBEq, Nat.reduceEqDiff, Int.reduceToNat, Bool.or_false, Bool.false_or, Bool.or_true, Bool.true_or, Bool.false_eq_true, if_true, if_false, ite_true, ite_false, and_true, true_and, and_self, reduceCtorEq, Int.reduceLT, Int.reduceLE, Int.reduceNeg, Int.reduceAdd, Int.reduceSub, Int.reduceMul, Nat.le_refl, or_true, true_or, or_self, Int.reduceEq, za_117]
  exact c3
end
