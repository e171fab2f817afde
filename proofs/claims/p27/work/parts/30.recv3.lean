/-! The class: a plain word is received -/
def ypl (l : List Nat) : yW := l.map fun x => x - 6
def yrp (ms : yF) (t : yT) : Int × Int × Int × Int :=
  if ((tre t).take ((tre t).length - 1)).all (fun x => decide (6 ≤ x)) = true ∧ ypl ((tre t).take ((tre t).length - 1)) ≠ [] ∧ (((tre t).getD ((tre t).length - 1) 0 : Nat) : Int) = 6 + ysum (ltr (ypl ((tre t).take ((tre t).length - 1)))) (ypl ((tre t).take ((tre t).length - 1))).length % 20 then (2, -6, -6, if tsp t = 1 ∧ ms.getD (tfi t) [] = ypl ((tre t).take ((tre t).length - 1)) then 1 else 0) else (3, -6, -6, 0)
set_option maxRecDepth 100000 in
theorem ypl_ok {l : List Nat} (h : ∀ x ∈ l, x < 26) : yltW (ypl l) := by
  intro y hy
  obtain ⟨x, hx, rfl⟩ := List.mem_map.1 hy
  have := h x hx
  omega
section
variable {h : zH} {F : Nat → Nat → Int} {J : Nat → Nat → Nat} {V : Nat → Int} {P : Nat → Nat → Option Nat} {bk : yB} {co wi ap : Int} {ms : yF} {sn : List yT}
set_option maxRecDepth 100000 in
theorem y_take_snoc {u : List Nat} {j : Nat} (hj : j < u.length) : u.take (j + 1) = u.take j ++ [u.getD j 0] := by
  rw [List.take_succ_eq_append_getElem hj, List.getD_eq_getElem?_getD, List.getElem?_eq_getElem hj]
  rfl
set_option maxRecDepth 100000 in
theorem c_receivePlain_l (k : zKH h F J V P) {n : Nat} (ht : rT F V n sn) (w : Nat) (hw : w < sn.length) (Q : zQ) (hQ : ((tre (sw sn w)).take ((tre (sw sn w)).length - 1)).all (fun x => decide (6 ≤ x)) = true → ∀ x : zV, Go 31 56 [vR 33, vR 9, vI w, vI (((tre (sw sn w)).length : Int) - 1), vJ (ypk (ypl ((tre (sw sn w)).take ((tre (sw sn w)).length - 1)))), vU, vI ((tre (sw sn w)).length - 1 : Nat), x] [] h Q) (hN : ¬ ((tre (sw sn w)).take ((tre (sw sn w)).length - 1)).all (fun x => decide (6 ≤ x)) = true → Q none h) (hu : 1 ≤ (tre (sw sn w)).length) : ∀ (d j : Nat) (x : zV), j + d = (tre (sw sn w)).length - 1 → ((tre (sw sn w)).take j).all (fun x => decide (6 ≤ x)) = true → Go 31 17 [vR 33, vR 9, vI w, vI (((tre (sw sn w)).length : Int) - 1), vJ (ypk (ypl ((tre (sw sn w)).take j))), vU, vI j, x] [] h Q := by
  intro d
  have q1 := (ht.2 w hw).1
  have l12 := ht.1.2
  have t26 := q1.2.2.2.2.2
  have len13 := q1.2.1.2
  induction d with
  | zero =>
    intro j x hj ha
    obtain rfl : j = (tre (sw sn w)).length - 1 := by omega
    have c3 := hQ ha x
    have e1 : ¬ (((tre (sw sn w)).length - 1 : Nat) : Int) < ((tre (sw sn w)).length : Int) - 1 := by omega
    refine Go_on (fun p => p == 56) 400 ?_; simp only [Ge_s, eM_s, zct_0, zct_I, zct_P, zct_J, eX_iconst, eX_ldc2w, eX_iload, eX_lload, eX_aload, eX_istore, eX_lstore, eX_astore, eX_iinc, eX_iadd, eX_isub, eX_imul, eX_idiv, eX_irem, eX_iand, eX_ishl, eX_ishr, eX_ixor, eX_ineg, eX_dupx2, eX_pop2, eX_land, eX_lor, eX_lshl, eX_lushr, eX_lcmp, eX_i2l, eX_l2i, eX_dup, eX_dup2, eX_ifCond, eX_ificmp, eX_goto, eX_ifnonnull, eX_tableswitch, eX_invokeinterface, eX_multianewarray, eX_getstatic, eX_iaload, eX_laload, eX_baload, eX_aaload, eX_iastore, eX_bastore, eX_lastore, eX_aastore, eX_arraylength, eX_new, eX_newarray, eX_anewarray, eX_invokevirtual, eX_invokestatic, eX_invokespecial, eX_pop, eX_invokedynamic, eX_ireturn, eX_freturn, eX_lreturn, eX_return, eI_s, eJ_s, eP_s, eSI_s, eSJ_s, eSP_s, eInc_s, eAdd_s, eSub_s, eMul_s, eDiv_s, eRem_s, eAnd_s, eXor_s, eNeg_s, eIshl_s, eIshr_s, eDx2_s, ePo2_s, zan_31, zan_255, zan_1, zan_15, zan_m, eLand_s, eLor_s, eLshl_s, eLushr_s, eLcmp_s, eI2l_s, eL2i_s, eDup_s, eDup2_s, eIf_s, eIc_s, eBr_eq, eBr_ne, eBr_lt, eBr_ge, eBr_gt, eBr_le, eNn_s, eNn_n, eG3_s, eG2_s, eGf_s, eP2_s, ePf_s, eAI2_s, eAZ2_s, eAJ2_s, eAQ2_s, eAI_s, eAZ_s, eAJ_s, eAQ_s, eXI2_s, eXZ2_s, eXJ2_s, eXQ2_s, eXI_s, eXZ_s, eXJ_s, eXQ_s, eL2_s, eLn_s, eNa_i, eNa_z, eNa_j, eNq_s, eK_s, eK_n, eR2_s, eRv_s, eRi_s, eCv_s, eCs_s, eCi_s, ePop_s, eMx_s, eMn_s, eCp_s, eCp2_i, eCp2_j, eJd_1, eJd_2, eJd_3, eRI_s, eRZ_s, eRJ_s, eRV_s, zsg_s, zsg_n, zsg_c, List.set_set, Option.map_some, ne_eq, not_false_eq_true, zfit_0, zfit_1, zfit_12, zkd, ↓reduceIte, zc1_I, zc1_P, zset1, zset2, zclr, List.getElem?_cons_zero, List.getElem?_cons_succ, List.set_cons_zero, List.set_cons_succ, List.length_cons, List.length_nil, List.take_succ_cons, List.take_zero, List.drop_succ_cons, List.drop_zero, List.reverse_cons, List.reverse_nil, List.nil_append, List.cons_append, Option.toList_some, Option.toList_none, Nat.reduceAdd, Nat.reduceSub, Nat.reduceLeDiff, Nat.reduceBEq, Nat.reduceEqDiff, Int.reduceToNat, Bool.or_false, Bool.false_or, Bool.or_true, Bool.true_or, Bool.false_eq_true, if_true, if_false, ite_true, ite_false, and_true, true_and, and_self, reduceCtorEq, Int.reduceLT, Int.reduceLE, Int.reduceNeg, Int.reduceAdd, Int.reduceSub, Int.reduceMul, Nat.le_refl, or_true, true_or, or_self, Int.reduceEq, za_31, e1]
    ((try unfold zr); (try unfold zix); (repeat' first | exact trivial | assumption | (with_reducible rfl) | omega | (refine And.intro ?_ ?_)))
  | succ d ih =>
    intro j x hj ha
    have e1 : (j : Int) < ((tre (sw sn w)).length : Int) - 1 := by omega
    have b1 := c_receivedAt (h := h) k ht w j hw (by omega)
    have hx : (tre (sw sn w)).getD j 0 < 26 := y_lt26 t26 j
    have hs := y_take_snoc (u := tre (sw sn w)) (j := j) (by omega)
    have c3 := fun ha => ih (j + 1) (vI (((tre (sw sn w)).getD j 0 : Nat) - 6 : Int)) (by omega) ha
    rw [hs, List.all_append, ha, Bool.true_and, List.all_cons, List.all_nil, Bool.and_true] at c3
    have hlt : yltW (ypl ((tre (sw sn w)).take j)) := ypl_ok fun y hy => t26 y (List.mem_of_mem_take hy)
    have hln : (ypl ((tre (sw sn w)).take j)).length ≤ 11 := by
      unfold ypl
      rw [List.length_map, List.length_take]
      omega
    by_cases c : (((tre (sw sn w)).getD j 0 : Nat) : Int) - 6 < 0
    · have c4 := hN (fun hall => by
        rw [List.all_eq_true] at hall
        have hm : (tre (sw sn w)).getD j 0 ∈ (tre (sw sn w)).take ((tre (sw sn w)).length - 1) := by
          have e9 : ((tre (sw sn w)).take ((tre (sw sn w)).length - 1)).getD j 0 = (tre (sw sn w)).getD j 0 := by
            rw [List.getD_eq_getElem?_getD, List.getElem?_take, if_pos (by omega), List.getD_eq_getElem?_getD]
          rw [← e9]
          exact ygetD_mem (by rw [List.length_take]; omega)
        have := of_decide_eq_true (hall _ hm)
        omega)
      refine Go_on (fun p => p == 17) 400 ?_; simp only [Ge_s, eM_s, zct_0, zct_I, zct_P, zct_J, eX_iconst, eX_ldc2w, eX_iload, eX_lload, eX_aload, eX_istore, eX_lstore, eX_astore, eX_iinc, eX_iadd, eX_isub, eX_imul, eX_idiv, eX_irem, eX_iand, eX_ishl, eX_ishr, eX_ixor, eX_ineg, eX_dupx2, eX_pop2, eX_land, eX_lor, eX_lshl, eX_lushr, eX_lcmp, eX_i2l, eX_l2i, eX_dup, eX_dup2, eX_ifCond, eX_ificmp, eX_goto, eX_ifnonnull, eX_tableswitch, eX_invokeinterface, eX_multianewarray, eX_getstatic, eX_iaload, eX_laload, eX_baload, eX_aaload, eX_iastore, eX_bastore, eX_lastore, eX_aastore, eX_arraylength, eX_new, eX_newarray, eX_anewarray, eX_invokevirtual, eX_invokestatic, eX_invokespecial, eX_pop, eX_invokedynamic, eX_ireturn, eX_freturn, eX_lreturn, eX_return, eI_s, eJ_s, eP_s, eSI_s, eSJ_s, eSP_s, eInc_s, eAdd_s, eSub_s, eMul_s, eDiv_s, eRem_s, eAnd_s, eXor_s, eNeg_s, eIshl_s, eIshr_s, eDx2_s, ePo2_s, zan_31, zan_255, zan_1, zan_15, zan_m, eLand_s, eLor_s, eLshl_s, eLushr_s, eLcmp_s, eI2l_s, eL2i_s, eDup_s, eDup2_s, eIf_s, eIc_s, eBr_eq, eBr_ne, eBr_lt, eBr_ge, eBr_gt, eBr_le, eNn_s, eNn_n, eG3_s, eG2_s, eGf_s, eP2_s, ePf_s, eAI2_s, eAZ2_s, eAJ2_s, eAQ2_s, eAI_s, eAZ_s, eAJ_s, eAQ_s, eXI2_s, eXZ2_s, eXJ2_s, eXQ2_s, eXI_s, eXZ_s, eXJ_s, eXQ_s, eL2_s, eLn_s, eNa_i, eNa_z, eNa_j, eNq_s, eK_s, eK_n, eR2_s, eRv_s, eRi_s, eCv_s, eCs_s, eCi_s, ePop_s, eMx_s, eMn_s, eCp_s, eCp2_i, eCp2_j, eJd_1, eJd_2, eJd_3, eRI_s, eRZ_s, eRJ_s, eRV_s, zsg_s, zsg_n, zsg_c, List.set_set, Option.map_some, ne_eq, not_false_eq_true, zfit_0, zfit_1, zfit_12, zkd, ↓reduceIte, zc1_I, zc1_P, zset1, zset2, zclr, List.getElem?_cons_zero, List.getElem?_cons_succ, List.set_cons_zero, List.set_cons_succ, List.length_cons, List.length_nil, List.take_succ_cons, List.take_zero, List.drop_succ_cons, List.drop_zero, List.reverse_cons, List.reverse_nil, List.nil_append, List.cons_append, Option.toList_some, Option.toList_none, Nat.reduceAdd, Nat.reduceSub, Nat.reduceLeDiff, Nat.reduceBEq, Nat.reduceEqDiff, Int.reduceToNat, Bool.or_false, Bool.false_or, Bool.or_true, Bool.true_or, Bool.false_eq_true, if_true, if_false, ite_true, ite_false, and_true, true_and, and_self, reduceCtorEq, Int.reduceLT, Int.reduceLE, Int.reduceNeg, Int.reduceAdd, Int.reduceSub, Int.reduceMul, Nat.le_refl, or_true, true_or, or_self, Int.reduceEq, za_31, zf_47, zf_92, e1, kh_9 k, b1, c]
      ((try unfold zr); (try unfold zix); (repeat' first | exact trivial | assumption | (with_reducible rfl) | omega | (refine And.intro ?_ ?_)))
    · have e3 : (((tre (sw sn w)).getD j 0 : Nat) : Int) - 6 = ((tre (sw sn w)).getD j 0 - 6 : Nat) := by omega
      have c3 := c3 (decide_eq_true (by omega))
      have e4 : ypl ((tre (sw sn w)).take j ++ [(tre (sw sn w)).getD j 0]) = ypl ((tre (sw sn w)).take j) ++ [(tre (sw sn w)).getD j 0 - 6] := by
        unfold ypl
        rw [List.map_append]
        rfl
      rw [e4, e3] at c3
      have b2 := c_longerWord (h := h) hlt hln ((tre (sw sn w)).getD j 0 - 6) (by omega)
      rw [e3] at c
      refine Go_on (fun p => p == 17) 400 ?_; simp only [Ge_s, eM_s, zct_0, zct_I, zct_P, zct_J, eX_iconst, eX_ldc2w, eX_iload, eX_lload, eX_aload, eX_istore, eX_lstore, eX_astore, eX_iinc, eX_iadd, eX_isub, eX_imul, eX_idiv, eX_irem, eX_iand, eX_ishl, eX_ishr, eX_ixor, eX_ineg, eX_dupx2, eX_pop2, eX_land, eX_lor, eX_lshl, eX_lushr, eX_lcmp, eX_i2l, eX_l2i, eX_dup, eX_dup2, eX_ifCond, eX_ificmp, eX_goto, eX_ifnonnull, eX_tableswitch, eX_invokeinterface, eX_multianewarray, eX_getstatic, eX_iaload, eX_laload, eX_baload, eX_aaload, eX_iastore, eX_bastore, eX_lastore, eX_aastore, eX_arraylength, eX_new, eX_newarray, eX_anewarray, eX_invokevirtual, eX_invokestatic, eX_invokespecial, eX_pop, eX_invokedynamic, eX_ireturn, eX_freturn, eX_lreturn, eX_return, eI_s, eJ_s, eP_s, eSI_s, eSJ_s, eSP_s, eInc_s, eAdd_s, eSub_s, eMul_s, eDiv_s, eRem_s, eAnd_s, eXor_s, eNeg_s, eIshl_s, eIshr_s, eDx2_s, ePo2_s, zan_31, zan_255, zan_1, zan_15, zan_m, eLand_s, eLor_s, eLshl_s, eLushr_s, eLcmp_s, eI2l_s, eL2i_s, eDup_s, eDup2_s, eIf_s, eIc_s, eBr_eq, eBr_ne, eBr_lt, eBr_ge, eBr_gt, eBr_le, eNn_s, eNn_n, eG3_s, eG2_s, eGf_s, eP2_s, ePf_s, eAI2_s, eAZ2_s, eAJ2_s, eAQ2_s, eAI_s, eAZ_s, eAJ_s, eAQ_s, eXI2_s, eXZ2_s, eXJ2_s, eXQ2_s, eXI_s, eXZ_s, eXJ_s, eXQ_s, eL2_s, eLn_s, eNa_i, eNa_z, eNa_j, eNq_s, eK_s, eK_n, eR2_s, eRv_s, eRi_s, eCv_s, eCs_s, eCi_s, ePop_s, eMx_s, eMn_s, eCp_s, eCp2_i, eCp2_j, eJd_1, eJd_2, eJd_3, eRI_s, eRZ_s, eRJ_s, eRV_s, zsg_s, zsg_n, zsg_c, List.set_set, Option.map_some, ne_eq, not_false_eq_true, zfit_0, zfit_1, zfit_12, zkd, ↓reduceIte, zc1_I, zc1_P, zset1, zset2, zclr, List.getElem?_cons_zero, List.getElem?_cons_succ, List.set_cons_zero, List.set_cons_succ, List.length_cons, List.length_nil, List.take_succ_cons, List.take_zero, List.drop_succ_cons, List.drop_zero, List.reverse_cons, List.reverse_nil, List.nil_append, List.cons_append, Option.toList_some, Option.toList_none, Nat.reduceAdd, Nat.reduceSub, Nat.reduceLeDiff, Nat.reduceBEq, Nat.reduceEqDiff, Int.reduceToNat, Bool.or_false, Bool.false_or, Bool.or_true, Bool.true_or, Bool.false_eq_true, if_true, if_false, ite_true, ite_false, and_true, true_and, and_self, reduceCtorEq, Int.reduceLT, Int.reduceLE, Int.reduceNeg, Int.reduceAdd, Int.reduceSub, Int.reduceMul, Nat.le_refl, or_true, true_or, or_self, Int.reduceEq, za_31, zf_47, zf_92, e1, kh_9 k, b1, e3, c, b2]
      ((try unfold zr); (try unfold zix); (repeat' first | exact trivial | assumption | (with_reducible rfl) | omega | (refine And.intro ?_ ?_)))
end
