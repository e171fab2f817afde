/-! The law: a letter is garbled; a setting is changed -/
set_option maxRecDepth 100000 in
theorem ysum_tpa : ∀ (l : List yT), ysum (fun i => tpa (sw l i)) l.length = (l.map fun t => tpa t).sum := by
  intro l
  have key : ∀ n, n ≤ l.length → ysum (fun i => tpa (sw l i)) n = ((l.take n).map fun t => tpa t).sum := by
    intro n
    induction n with
    | zero => intro _; rfl
    | succ n ih =>
      intro hn
      rw [List.take_succ_eq_append_getElem (by omega), List.map_append, List.sum_append, ← ih (by omega)]
      have e : sw l n = l[n] := by
        unfold sw
        rw [List.getD_eq_getElem?_getD, List.getElem?_eq_getElem (by omega)]
        rfl
      show ysum (fun i => tpa (sw l i)) n + tpa (sw l n) = ysum (fun i => tpa (sw l i)) n + (tpa l[n] + 0)
      rw [e, Int.add_zero]
  have := key l.length (Nat.le_refl _)
  rw [List.take_length] at this
  exact this
section
variable {L : Nat} {xs : Nat → Int32} {A : yA} {q en me se : Nat → Int} {h : zH}
-- what comes behind an act
def yNx (L : Nat) (xs : Nat → Int32) (tu z kd : Int) (Q : zQ) : Prop := ∀ (h : zH) (A : yA) (q en me se : Nat → Int) (x10 x11 x12 x13 x14 x15 : zV), Wd L xs A q en me se h → LI A q en me se → Go 120 990 [vR 2, vR 3, vR 34, vR 35, vR 36, vR 37, vR 38, vI tu, vI z, vI kd, x10, x11, x12, x13, x14, x15] [] h Q
set_option maxRecDepth 100000 in
theorem low_n {v n : Int} (hn : 0 < n) : ∃ k : Nat, v % 2147483648 % n = (k : Int) ∧ (k : Int) < n := by
  have r := low_r (v := v) hn
  exact ⟨(v % 2147483648 % n).toNat, by omega, by omega⟩
set_option maxRecDepth 100000 in
theorem k_garble (li : LI A q en me se) (w : Wd L xs A q en me se h) (tu z : Int) (Q : zQ) (hN : yNx L xs tu z 5 Q) (x10 x11 x12 x13 x14 x15 : zV) : Go 120 80 [vR 2, vR 3, vR 34, vR 35, vR 36, vR 37, vR 38, vI tu, vI z, vI 5, x10, x11, x12, x13, x14, x15] [] h Q := by
  obtain ⟨⟨hq, q5, q6⟩, hb, hm, hs⟩ := id li
  have s4 := hs.1
  have k3 := W_3 w
  have k34 := W_34 w
  have k37 := W_37 w
  rcases Nat.eq_zero_or_pos (ssn (aS A)).length with hn | hn
  · have n0 : ¬ (0 : Int) < (ssn (aS A)).length := by omega
    have c3 := hN h A q en me se x10 x11 x12 x13 x14 x15 w li
    refine Go_on (fun p => p == 990) 400 ?_; simp only [Ge_s, eM_s, zct_0, zct_I, zct_P, zct_J, eX_iconst, eX_ldc2w, eX_iload, eX_lload, eX_aload, eX_istore, eX_lstore, eX_astore, eX_iinc, eX_iadd, eX_isub, eX_imul, eX_idiv, eX_irem, eX_iand, eX_ishl, eX_ishr, eX_ixor, eX_ineg, eX_dupx2, eX_pop2, eX_land, eX_lor, eX_lshl, eX_lushr, eX_lcmp, eX_i2l, eX_l2i, eX_dup, eX_dup2, eX_ifCond, eX_ificmp, eX_goto, eX_ifnonnull, eX_tableswitch, eX_invokeinterface, eX_multianewarray, eX_getstatic, eX_iaload, eX_laload, eX_baload, eX_aaload, eX_iastore, eX_bastore, eX_lastore, eX_aastore, eX_arraylength, eX_new, eX_newarray, eX_anewarray, eX_invokevirtual, eX_invokestatic, eX_invokespecial, eX_pop, eX_invokedynamic, eX_ireturn, eX_freturn, eX_lreturn, eX_return, eI_s, eJ_s, eP_s, eSI_s, eSJ_s, eSP_s, eInc_s, eAdd_s, eSub_s, eMul_s, eDiv_s, eRem_s, eAnd_s, eXor_s, eNeg_s, eIshl_s, eIshr_s, eDx2_s, ePo2_s, zan_31, zan_255, zan_1, zan_15, zan_m, eLand_s, eLor_s, eLshl_s, eLushr_s, eLcmp_s, eI2l_s, eL2i_s, eDup_s, eDup2_s, eIf_s, eIc_s, eBr_eq, eBr_ne, eBr_lt, eBr_ge, eBr_gt, eBr_le, eNn_s, eNn_n, eG3_s, eG2_s, eGf_s, eP2_s, ePf_s, eAI2_s, eAZ2_s, eAJ2_s, eAQ2_s, eAI_s, eAZ_s, eAJ_s, eAQ_s, eXI2_s, eXZ2_s, eXJ2_s, eXQ2_s, eXI_s, eXZ_s, eXJ_s, eXQ_s, eL2_s, eLn_s, eNa_i, eNa_z, eNa_j, eNq_s, eK_s, eK_n, eR2_s, eRv_s, eRi_s, eCv_s, eCs_s, eCi_s, ePop_s, eMx_s, eMn_s, eCp_s, eCp2_i, eCp2_j, eJd_1, eJd_2, eJd_3, eRI_s, eRZ_s, eRJ_s, eRV_s, zsg_s, zsg_n, zsg_c, List.set_set, Option.map_some, ne_eq, not_false_eq_true, zfit_0, zfit_1, zfit_12, zkd, ↓reduceIte, zc1_I, zc1_P, zset1, zset2, zclr, List.getElem?_cons_zero, List.getElem?_cons_succ, List.set_cons_zero, List.set_cons_succ, List.length_cons, List.length_nil, List.take_succ_cons, List.take_zero, List.drop_succ_cons, List.drop_zero, List.reverse_cons, List.reverse_nil, List.nil_append, List.cons_append, Option.toList_some, Option.toList_none, Nat.reduceAdd, Nat.reduceSub, Nat.reduceLeDiff, Nat.reduceBEq, Nat.reduceEqDiff, Int.reduceToNat, Bool.or_false, Bool.false_or, Bool.or_true, Bool.true_or, Bool.false_eq_true, if_true, if_false, ite_true, ite_false, and_true, true_and, and_self, reduceCtorEq, Int.reduceLT, Int.reduceLE, Int.reduceNeg, Int.reduceAdd, Int.reduceSub, Int.reduceMul, Nat.le_refl, or_true, true_or, or_self, Int.reduceEq, za_120_0, za_120_1, za_120_2, za_120_3, za_120_4, za_120_5, k34, q5, n0]
    ((try unfold zr); (try unfold zix); (repeat' first | exact trivial | assumption | (with_reducible rfl) | omega | (refine And.intro ?_ ?_)))
  · have n0 : (0 : Int) < (ssn (aS A)).length := by omega
    obtain ⟨u, eu, hu⟩ := low_n (v := zwr z / 8) n0
    have hl := hs.2 u (by omega)
    have wt := W_T w u (by omega)
    have l5 := hl.2.1
    have g4 := hl.1.2.2.2.2
    have t4 : (15 * (u : Int) + 4).toNat = 15 * u + 4 := by omega
    obtain ⟨p, ep, hp⟩ := low_n (v := zwr z / 32) (n := ((tre (sw (ssn (aS A)) u)).length : Int)) (by omega)
    have t10 : (15 * (u : Int) + 10 + (p : Int)).toNat = 15 * u + 10 + p := by omega
    have g10 := (hl.2.2 p (by omega)).2
    have r10 := y_lt26 wt.2.2.2.2.2 p
    have b1 := l_low (h := h) (v := zwr z / 8) (n := ((ssn (aS A)).length : Int)) (by omega)
    have b2 := l_low (h := h) (v := zwr z / 32) (n := ((tre (sw (ssn (aS A)) u)).length : Int)) (by omega)
    have b3 := l_low (h := h) (v := zwr z / 512) (n := 2) (by omega)
    have b4 := l_low (h := h) (v := zwr z / 1024) (n := 26) (by omega)
    have b5 := l_low (h := h) (v := zwr z / 1024) (n := 8) (by omega)
    rw [eu] at b1
    rw [ep] at b2
    have fin : ∀ x : Nat, x < 26 → Go 120 645 [vR 2, vR 3, vR 34, vR 35, vR 36, vR 37, vR 38, vI tu, vI z, vI 5, vI u, vI p, x12, x13, x14, x15] [vI x] h Q := by
      intro x hx
      have c3 : Ca 67 [vR 3, vI u, vI p, vI x] h (eK (fun pc ls st h => Go 120 pc ls st h Q) 657 [vR 2, vR 3, vR 34, vR 35, vR 36, vR 37, vR 38, vI tu, vI z, vI 5, vI u, vI p, vI x, x13, x14, x15] []) := by
        refine W_call (A2 := (((aS A).1, sbk (aS A), sms (aS A), ygb (ssn (aS A)) u p x), aP A, ykp (aL A) (aS A), a6 A, a7 A)) w (fun F J V P k c => p_garble k c u p x (by omega) (by omega) hx) _ ?_
        intro h2 w2
        rw [eK_s]
        have k37 := W_37 w2
        have c4 := hN (h2.set 37 (aI 60 (va_up se (15 * u + 10 + p) (x : Int)))) (((aS A).1, sbk (aS A), sms (aS A), ygb (ssn (aS A)) u p x), aP A, ykp (aL A) (aS A), a6 A, a7 A) q en me (va_up se (15 * u + 10 + p) (x : Int)) (vI u) (vI p) (vI x) x13 x14 x15 (W_s37 w2 _) (by
          have el : (ygb (ssn (aS A)) u p x).length = (ssn (aS A)).length := by unfold ygb; rw [List.length_set]
          have ga := fun i => ygb_at (ssn (aS A)) u p x i (by omega)
          refine ⟨⟨hq, ?_, ?_⟩, hb, hm, ⟨?_, fun i hi => ?_⟩⟩
          · show q 5 = (((ygb (ssn (aS A)) u p x).length : Nat) : Int)
            rw [el]; exact q5
          · show q 6 = ysum (fun i => tpa (sw (ygb (ssn (aS A)) u p x) i)) (ygb (ssn (aS A)) u p x).length
            rw [el, q6]
            refine ysum_c _ fun i _ => ?_
            rw [ga]
            by_cases c : i = u
            · rw [if_pos c, c]; rfl
            · rw [if_neg c]
          · show (ygb (ssn (aS A)) u p x).length ≤ 4
            rw [el]; exact s4
          · have hi : i < (ygb (ssn (aS A)) u p x).length := hi
            rw [el] at hi
            show lwd _ i (sw (ygb (ssn (aS A)) u p x) i)
            rw [ga]
            by_cases c : i = u
            · rw [if_pos c, c]
              obtain ⟨⟨a1, a2, a3, a4, a5⟩, a6, a7⟩ := hl
              have el2 : (tre (ytre (sw (ssn (aS A)) u) ((tre (sw (ssn (aS A)) u)).set p x))).length = (tre (sw (ssn (aS A)) u)).length := by
                show ((tre (sw (ssn (aS A)) u)).set p x).length = _
                rw [List.length_set]
              refine ⟨⟨?_, ?_, ?_, ?_, ?_⟩, ?_, fun j hj => ?_⟩
              · rw [y_up, if_neg (by omega)]; exact a1
              · rw [y_up, if_neg (by omega)]; exact a2
              · rw [y_up, if_neg (by omega)]; exact a3
              · rw [y_up, if_neg (by omega)]; exact a4
              · rw [y_up, if_neg (by omega), el2]; exact a5
              · rw [el2]; exact a6
              · rw [el2] at hj
                have a7 := a7 j hj
                refine ⟨?_, ?_⟩
                · rw [y_up, if_neg (by omega)]; exact a7.1
                · show _ = ((((tre (sw (ssn (aS A)) u)).set p x).getD j 0 : Nat) : Int)
                  rw [y_up, List.getD_eq_getElem?_getD, List.getElem?_set]
                  by_cases d : j = p
                  · rw [if_pos (by omega), if_pos d.symm, if_pos (by omega)]; rfl
                  · rw [if_neg (by omega), if_neg (fun z => d z.symm), ← List.getD_eq_getElem?_getD]; exact a7.2
            · rw [if_neg c]
              exact lwd_cg (hs.2 i hi) (fun s h1 h2 => by rw [y_up, if_neg (by omega)]))
        refine Go_on (fun p => p == 990) 400 ?_; simp only [Ge_s, eM_s, zct_0, zct_I, zct_P, zct_J, eX_iconst, eX_ldc2w, eX_iload, eX_lload, eX_aload, eX_istore, eX_lstore, eX_astore, eX_iinc, eX_iadd, eX_isub, eX_imul, eX_idiv, eX_irem, eX_iand, eX_ishl, eX_ishr, eX_ixor, eX_ineg, eX_dupx2, eX_pop2, eX_land, eX_lor, eX_lshl, eX_lushr, eX_lcmp, eX_i2l, eX_l2i, eX_dup, eX_dup2, eX_ifCond, eX_ificmp, eX_goto, eX_ifnonnull, eX_tableswitch, eX_invokeinterface, eX_multianewarray, eX_getstatic, eX_iaload, eX_laload, eX_baload, eX_aaload, eX_iastore, eX_bastore, eX_lastore, eX_aastore, eX_arraylength, eX_new, eX_newarray, eX_anewarray, eX_invokevirtual, eX_invokestatic, eX_invokespecial, eX_pop, eX_invokedynamic, eX_ireturn, eX_freturn, eX_lreturn, eX_return, eI_s, eJ_s, eP_s, eSI_s, eSJ_s, eSP_s, eInc_s, eAdd_s, eSub_s, eMul_s, eDiv_s, eRem_s, eAnd_s, eXor_s, eNeg_s, eIshl_s, eIshr_s, eDx2_s, ePo2_s, zan_31, zan_255, zan_1, zan_15, zan_m, eLand_s, eLor_s, eLshl_s, eLushr_s, eLcmp_s, eI2l_s, eL2i_s, eDup_s, eDup2_s, eIf_s, eIc_s, eBr_eq, eBr_ne, eBr_lt, eBr_ge, eBr_gt, eBr_le, eNn_s, eNn_n, eG3_s, eG2_s, eGf_s, eP2_s, ePf_s, eAI2_s, eAZ2_s, eAJ2_s, eAQ2_s, eAI_s, eAZ_s, eAJ_s, eAQ_s, eXI2_s, eXZ2_s, eXJ2_s, eXQ2_s, eXI_s, eXZ_s, eXJ_s, eXQ_s, eL2_s, eLn_s, eNa_i, eNa_z, eNa_j, eNq_s, eK_s, eK_n, eR2_s, eRv_s, eRi_s, eCv_s, eCs_s, eCi_s, ePop_s, eMx_s, eMn_s, eCp_s, eCp2_i, eCp2_j, eJd_1, eJd_2, eJd_3, eRI_s, eRZ_s, eRJ_s, eRV_s, zsg_s, zsg_n, zsg_c, List.set_set, Option.map_some, ne_eq, not_false_eq_true, zfit_0, zfit_1, zfit_12, zkd, ↓reduceIte, zc1_I, zc1_P, zset1, zset2, zclr, List.getElem?_cons_zero, List.getElem?_cons_succ, List.set_cons_zero, List.set_cons_succ, List.length_cons, List.length_nil, List.take_succ_cons, List.take_zero, List.drop_succ_cons, List.drop_zero, List.reverse_cons, List.reverse_nil, List.nil_append, List.cons_append, Option.toList_some, Option.toList_none, Nat.reduceAdd, Nat.reduceSub, Nat.reduceLeDiff, Nat.reduceBEq, Nat.reduceEqDiff, Int.reduceToNat, Bool.or_false, Bool.false_or, Bool.or_true, Bool.true_or, Bool.false_eq_true, if_true, if_false, ite_true, ite_false, and_true, true_and, and_self, reduceCtorEq, Int.reduceLT, Int.reduceLE, Int.reduceNeg, Int.reduceAdd, Int.reduceSub, Int.reduceMul, Nat.le_refl, or_true, true_or, or_self, Int.reduceEq, za_120_0, za_120_1, za_120_2, za_120_3, za_120_4, za_120_5, k37, t10, g10]
        ((try unfold zr); (try unfold zix); (repeat' first | exact trivial | assumption | (with_reducible rfl) | omega | (refine And.intro ?_ ?_)))
      refine Go_on (fun p => p == 657) 400 ?_; simp only [Ge_s, eM_s, zct_0, zct_I, zct_P, zct_J, eX_iconst, eX_ldc2w, eX_iload, eX_lload, eX_aload, eX_istore, eX_lstore, eX_astore, eX_iinc, eX_iadd, eX_isub, eX_imul, eX_idiv, eX_irem, eX_iand, eX_ishl, eX_ishr, eX_ixor, eX_ineg, eX_dupx2, eX_pop2, eX_land, eX_lor, eX_lshl, eX_lushr, eX_lcmp, eX_i2l, eX_l2i, eX_dup, eX_dup2, eX_ifCond, eX_ificmp, eX_goto, eX_ifnonnull, eX_tableswitch, eX_invokeinterface, eX_multianewarray, eX_getstatic, eX_iaload, eX_laload, eX_baload, eX_aaload, eX_iastore, eX_bastore, eX_lastore, eX_aastore, eX_arraylength, eX_new, eX_newarray, eX_anewarray, eX_invokevirtual, eX_invokestatic, eX_invokespecial, eX_pop, eX_invokedynamic, eX_ireturn, eX_freturn, eX_lreturn, eX_return, eI_s, eJ_s, eP_s, eSI_s, eSJ_s, eSP_s, eInc_s, eAdd_s, eSub_s, eMul_s, eDiv_s, eRem_s, eAnd_s, eXor_s, eNeg_s, eIshl_s, eIshr_s, eDx2_s, ePo2_s, zan_31, zan_255, zan_1, zan_15, zan_m, eLand_s, eLor_s, eLshl_s, eLushr_s, eLcmp_s, eI2l_s, eL2i_s, eDup_s, eDup2_s, eIf_s, eIc_s, eBr_eq, eBr_ne, eBr_lt, eBr_ge, eBr_gt, eBr_le, eNn_s, eNn_n, eG3_s, eG2_s, eGf_s, eP2_s, ePf_s, eAI2_s, eAZ2_s, eAJ2_s, eAQ2_s, eAI_s, eAZ_s, eAJ_s, eAQ_s, eXI2_s, eXZ2_s, eXJ2_s, eXQ2_s, eXI_s, eXZ_s, eXJ_s, eXQ_s, eL2_s, eLn_s, eNa_i, eNa_z, eNa_j, eNq_s, eK_s, eK_n, eR2_s, eRv_s, eRi_s, eCv_s, eCs_s, eCi_s, ePop_s, eMx_s, eMn_s, eCp_s, eCp2_i, eCp2_j, eJd_1, eJd_2, eJd_3, eRI_s, eRZ_s, eRJ_s, eRV_s, zsg_s, zsg_n, zsg_c, List.set_set, Option.map_some, ne_eq, not_false_eq_true, zfit_0, zfit_1, zfit_12, zkd, ↓reduceIte, zc1_I, zc1_P, zset1, zset2, zclr, List.getElem?_cons_zero, List.getElem?_cons_succ, List.set_cons_zero, List.set_cons_succ, List.length_cons, List.length_nil, List.take_succ_cons, List.take_zero, List.drop_succ_cons, List.drop_zero, List.reverse_cons, List.reverse_nil, List.nil_append, List.cons_append, Option.toList_some, Option.toList_none, Nat.reduceAdd, Nat.reduceSub, Nat.reduceLeDiff, Nat.reduceBEq, Nat.reduceEqDiff, Int.reduceToNat, Bool.or_false, Bool.false_or, Bool.or_true, Bool.true_or, Bool.false_eq_true, if_true, if_false, ite_true, ite_false, and_true, true_and, and_self, reduceCtorEq, Int.reduceLT, Int.reduceLE, Int.reduceNeg, Int.reduceAdd, Int.reduceSub, Int.reduceMul, Nat.le_refl, or_true, true_or, or_self, Int.reduceEq, za_120_0, za_120_1, za_120_2, za_120_3, za_120_4, za_120_5, zf_67, k3]
      ((try unfold zr); (try unfold zix); (repeat' first | exact trivial | assumption | (with_reducible rfl) | omega | (refine And.intro ?_ ?_)))
    by_cases c1 : zwr z / 512 % 2147483648 % 2 = 0
    · obtain ⟨x, ex, hx⟩ := low_n (v := zwr z / 1024) (n := 26) (by omega)
      rw [ex] at b4
      have c3 := fin x (by omega)
      refine Go_on (fun p => p == 645) 400 ?_; simp only [Ge_s, eM_s, zct_0, zct_I, zct_P, zct_J, eX_iconst, eX_ldc2w, eX_iload, eX_lload, eX_aload, eX_istore, eX_lstore, eX_astore, eX_iinc, eX_iadd, eX_isub, eX_imul, eX_idiv, eX_irem, eX_iand, eX_ishl, eX_ishr, eX_ixor, eX_ineg, eX_dupx2, eX_pop2, eX_land, eX_lor, eX_lshl, eX_lushr, eX_lcmp, eX_i2l, eX_l2i, eX_dup, eX_dup2, eX_ifCond, eX_ificmp, eX_goto, eX_ifnonnull, eX_tableswitch, eX_invokeinterface, eX_multianewarray, eX_getstatic, eX_iaload, eX_laload, eX_baload, eX_aaload, eX_iastore, eX_bastore, eX_lastore, eX_aastore, eX_arraylength, eX_new, eX_newarray, eX_anewarray, eX_invokevirtual, eX_invokestatic, eX_invokespecial, eX_pop, eX_invokedynamic, eX_ireturn, eX_freturn, eX_lreturn, eX_return, eI_s, eJ_s, eP_s, eSI_s, eSJ_s, eSP_s, eInc_s, eAdd_s, eSub_s, eMul_s, eDiv_s, eRem_s, eAnd_s, eXor_s, eNeg_s, eIshl_s, eIshr_s, eDx2_s, ePo2_s, zan_31, zan_255, zan_1, zan_15, zan_m, eLand_s, eLor_s, eLshl_s, eLushr_s, eLcmp_s, eI2l_s, eL2i_s, eDup_s, eDup2_s, eIf_s, eIc_s, eBr_eq, eBr_ne, eBr_lt, eBr_ge, eBr_gt, eBr_le, eNn_s, eNn_n, eG3_s, eG2_s, eGf_s, eP2_s, ePf_s, eAI2_s, eAZ2_s, eAJ2_s, eAQ2_s, eAI_s, eAZ_s, eAJ_s, eAQ_s, eXI2_s, eXZ2_s, eXJ2_s, eXQ2_s, eXI_s, eXZ_s, eXJ_s, eXQ_s, eL2_s, eLn_s, eNa_i, eNa_z, eNa_j, eNq_s, eK_s, eK_n, eR2_s, eRv_s, eRi_s, eCv_s, eCs_s, eCi_s, ePop_s, eMx_s, eMn_s, eCp_s, eCp2_i, eCp2_j, eJd_1, eJd_2, eJd_3, eRI_s, eRZ_s, eRJ_s, eRV_s, zsg_s, zsg_n, zsg_c, List.set_set, Option.map_some, ne_eq, not_false_eq_true, zfit_0, zfit_1, zfit_12, zkd, ↓reduceIte, zc1_I, zc1_P, zset1, zset2, zclr, List.getElem?_cons_zero, List.getElem?_cons_succ, List.set_cons_zero, List.set_cons_succ, List.length_cons, List.length_nil, List.take_succ_cons, List.take_zero, List.drop_succ_cons, List.drop_zero, List.reverse_cons, List.reverse_nil, List.nil_append, List.cons_append, Option.toList_some, Option.toList_none, Nat.reduceAdd, Nat.reduceSub, Nat.reduceLeDiff, Nat.reduceBEq, Nat.reduceEqDiff, Int.reduceToNat, Bool.or_false, Bool.false_or, Bool.or_true, Bool.true_or, Bool.false_eq_true, if_true, if_false, ite_true, ite_false, and_true, true_and, and_self, reduceCtorEq, Int.reduceLT, Int.reduceLE, Int.reduceNeg, Int.reduceAdd, Int.reduceSub, Int.reduceMul, Nat.le_refl, or_true, true_or, or_self, Int.reduceEq, za_120_0, za_120_1, za_120_2, za_120_3, za_120_4, za_120_5, zf_103, k34, k37, q5, n0, b1, b2, b3, b4, t4, g4, c1, Int.reducePow]
      ((try unfold zr); (try unfold zix); (repeat' first | exact trivial | assumption | (with_reducible rfl) | omega | (refine And.intro ?_ ?_)))
    · obtain ⟨x, ex, hx⟩ := low_n (v := zwr z / 1024) (n := 8) (by omega)
      rw [ex] at b5
      have c3 := fin x (by omega)
      have r2 := low_r (v := zwr z / 512) (n := 2) (by omega)
      refine Go_on (fun p => p == 645) 400 ?_; simp only [Ge_s, eM_s, zct_0, zct_I, zct_P, zct_J, eX_iconst, eX_ldc2w, eX_iload, eX_lload, eX_aload, eX_istore, eX_lstore, eX_astore, eX_iinc, eX_iadd, eX_isub, eX_imul, eX_idiv, eX_irem, eX_iand, eX_ishl, eX_ishr, eX_ixor, eX_ineg, eX_dupx2, eX_pop2, eX_land, eX_lor, eX_lshl, eX_lushr, eX_lcmp, eX_i2l, eX_l2i, eX_dup, eX_dup2, eX_ifCond, eX_ificmp, eX_goto, eX_ifnonnull, eX_tableswitch, eX_invokeinterface, eX_multianewarray, eX_getstatic, eX_iaload, eX_laload, eX_baload, eX_aaload, eX_iastore, eX_bastore, eX_lastore, eX_aastore, eX_arraylength, eX_new, eX_newarray, eX_anewarray, eX_invokevirtual, eX_invokestatic, eX_invokespecial, eX_pop, eX_invokedynamic, eX_ireturn, eX_freturn, eX_lreturn, eX_return, eI_s, eJ_s, eP_s, eSI_s, eSJ_s, eSP_s, eInc_s, eAdd_s, eSub_s, eMul_s, eDiv_s, eRem_s, eAnd_s, eXor_s, eNeg_s, eIshl_s, eIshr_s, eDx2_s, ePo2_s, zan_31, zan_255, zan_1, zan_15, zan_m, eLand_s, eLor_s, eLshl_s, eLushr_s, eLcmp_s, eI2l_s, eL2i_s, eDup_s, eDup2_s, eIf_s, eIc_s, eBr_eq, eBr_ne, eBr_lt, eBr_ge, eBr_gt, eBr_le, eNn_s, eNn_n, eG3_s, eG2_s, eGf_s, eP2_s, ePf_s, eAI2_s, eAZ2_s, eAJ2_s, eAQ2_s, eAI_s, eAZ_s, eAJ_s, eAQ_s, eXI2_s, eXZ2_s, eXJ2_s, eXQ2_s, eXI_s, eXZ_s, eXJ_s, eXQ_s, eL2_s, eLn_s, eNa_i, eNa_z, eNa_j, eNq_s, eK_s, eK_n, eR2_s, eRv_s, eRi_s, eCv_s, eCs_s, eCi_s, ePop_s, eMx_s, eMn_s, eCp_s, eCp2_i, eCp2_j, eJd_1, eJd_2, eJd_3, eRI_s, eRZ_s, eRJ_s, eRV_s, zsg_s, zsg_n, zsg_c, List.set_set, Option.map_some, ne_eq, not_false_eq_true, zfit_0, zfit_1, zfit_12, zkd, ↓reduceIte, zc1_I, zc1_P, zset1, zset2, zclr, List.getElem?_cons_zero, List.getElem?_cons_succ, List.set_cons_zero, List.set_cons_succ, List.length_cons, List.length_nil, List.take_succ_cons, List.take_zero, List.drop_succ_cons, List.drop_zero, List.reverse_cons, List.reverse_nil, List.nil_append, List.cons_append, Option.toList_some, Option.toList_none, Nat.reduceAdd, Nat.reduceSub, Nat.reduceLeDiff, Nat.reduceBEq, Nat.reduceEqDiff, Int.reduceToNat, Bool.or_false, Bool.false_or, Bool.or_true, Bool.true_or, Bool.false_eq_true, if_true, if_false, ite_true, ite_false, and_true, true_and, and_self, reduceCtorEq, Int.reduceLT, Int.reduceLE, Int.reduceNeg, Int.reduceAdd, Int.reduceSub, Int.reduceMul, Nat.le_refl, or_true, true_or, or_self, Int.reduceEq, za_120_0, za_120_1, za_120_2, za_120_3, za_120_4, za_120_5, zf_103, k34, k37, q5, n0, b1, b2, b3, b5, t4, g4, c1, Int.reducePow]
      ((try unfold zr); (try unfold zix); (repeat' first | exact trivial | assumption | (with_reducible rfl) | omega | (refine And.intro ?_ ?_)))
end
