/-! The law: the sent words of a message -/
section
variable {h : zH} {q en me se0 : Nat → Int} {bk : yB} {ms : yF} {co wi ap : Int}
set_option maxRecDepth 100000 in
theorem l_seg (h34 : h[34]? = some (aI 7 q)) (h35 : h[35]? = some (aI 50 en)) (h36 : h[36]? = some (aI 4 me)) (h37 : h[37]? = some (aI 60 se0)) (hb : lb en bk) (hm : lm me ms) (m : Nat) (hm3 : m ≤ 3) (vb : Int) (fr s k : Nat) (hs : fr + s = k + 1) (hk : k < ms.length) (s1 : 1 ≤ s) (s3 : s ≤ 3) (hv : s = 1 ∨ 0 ≤ yEn bk ms fr s) (qq : Nat → Int) (hqq : lq qq co wi ap bk.length ms.length) (q5 : qq 5 = m) (se : Nat → Int) (x7 x8 x9 x10 x11 x12 : zV) (Q : zQ)
    (hQ : ∀ se2 x7 x8 x9 x10 x11 x12, (∀ i, i < 15 * m → se2 i = se i) → lwd se2 m (ynt co wi bk ms fr s (yEn bk ms fr s)) → Go 113 32 [vR 34, vR 35, vR 36, vR 37, vI vb, vI ((k : Int) + 1), vI ((k : Int) + 1), x7, x8, x9, x10, x11, x12] [] (hhS h (va_up qq 5 ((m : Int) + 1)) se2) Q) :
    Go 113 63 [vR 34, vR 35, vR 36, vR 37, vI vb, vI fr, vI k, x7, x8, x9, x10, x11, x12] [] (hhS h qq se) Q := by
  have l10 := hb.1
  have l4 := hm.1
  have k34 := fun a s => hS_34 (h := h) h34 a s
  have k37 := fun a s => hS_37 (h := h) h37 a s
  have k35 := fun a s => (hS_n (h := h) (t := 35) (by omega) (by omega) a s).trans h35
  have k36 := fun a s => (hS_n (h := h) (t := 36) (by omega) (by omega) a s).trans h36
  have k34s := fun a a' s => hS_s34 (h := h) a a' s
  have k37s := fun a s s' => hS_s37 (h := h) a s s'
  have t0 : (15 * (m : Int)).toNat = 15 * m := by omega
  have t1 : (15 * (m : Int) + 1).toNat = 15 * m + 1 := by omega
  have t2 : (15 * (m : Int) + 2).toNat = 15 * m + 2 := by omega
  have t3 : (15 * (m : Int) + 3).toNat = 15 * m + 3 := by omega
  have t4 : (15 * (m : Int) + 4).toNat = 15 * m + 4 := by omega
  have tf : ((fr : Int)).toNat = fr := Int.toNat_natCast fr
  have es : (k : Int) - fr + 1 = (s : Int) := by omega
  have hq2 := lq_up hqq (i := 5) (by omega) ((m : Int) + 1)
  obtain ⟨⟨u0, u1, u2, u3, u4⟩, qc, qw, qa⟩ := id hq2
  have b1 := l_entry (h := hhS h (va_up qq 5 ((m : Int) + 1)) se) (k34 _ _) (k35 _ _) (k36 _ _) hq2 hb hm fr s s3 (by omega)
  have hE := yfind_r bk (ysub ms fr s)
  have gT : (∀ s0 se2 : Nat → Int, ∀ (n : Nat) (L : Nat → Int) (tt : yT), (∀ i, i < 15 * m → s0 i = se i) → (s0 (15 * m) = tfi tt ∧ s0 (15 * m + 1) = tsp tt ∧ s0 (15 * m + 2) = tco tt ∧ s0 (15 * m + 3) = tpa tt ∧ s0 (15 * m + 4) = (tre tt).length) → ((tor tt).length = (tre tt).length ∧ 2 ≤ (tre tt).length ∧ (tre tt).length ≤ 5) → n = (tre tt).length → (∀ j, j < n → L j = ((tor tt).getD j 0 : Nat) ∧ L j = ((tre tt).getD j 0 : Nat)) → lle s0 se2 m n L → (∀ i, i < 15 * m → se2 i = se i) ∧ lwd se2 m tt) := by
    intro s0 se2 n L tt g1 g2 g3 g4 g5 g6
    refine ⟨fun i hi => ?_, ⟨⟨?_, ?_, ?_, ?_, ?_⟩, g3, fun j hj => ?_⟩⟩
    · rw [g6.1 i (by omega)]; exact g1 i hi
    · rw [g6.1 _ (by omega)]; exact g2.1
    · rw [g6.1 _ (by omega)]; exact g2.2.1
    · rw [g6.1 _ (by omega)]; exact g2.2.2.1
    · rw [g6.1 _ (by omega)]; exact g2.2.2.2.1
    · rw [g6.1 _ (by omega)]; exact g2.2.2.2.2
    · have a := g6.2 j (by omega)
      have b := g5 j (by omega)
      rw [a.1, a.2]
      exact b
  by_cases cE : 0 ≤ yEn bk ms fr s
  · obtain ⟨e, he⟩ : ∃ e : Nat, yfind bk (ysub ms fr s) 0 bk.length = (e : Int) := ⟨_, (Int.toNat_of_nonneg cE).symm⟩
    have heb : e < bk.length := by omega
    have eT : ynt co wi bk ms fr s (yEn bk ms fr s) = (fr, s, 1, co, ycw (bcd bk e), ycw (bcd bk e)) := by
      unfold ynt
      show (if yfind bk (ysub ms fr s) 0 bk.length = -6 then _ else _) = _
      rw [if_neg (by omega)]
      rw [show yEn bk ms fr s = (e : Int) from he, Int.toNat_natCast]
    rw [eT] at hQ
    rw [he] at b1
    have n0 : ¬ (e : Int) < 0 := by omega
    have c5 := l_send_c (h := h) h35 h37 hb m hm3 e heb (va_up (va_up (va_up (va_up (va_up se (15 * m) fr) (15 * m + 1) s) (15 * m + 2) 1) (15 * m + 3) co) (15 * m + 4) 4) (by rw [y_up, if_pos rfl]) (va_up qq 5 ((m : Int) + 1)) vb fr k s Q (by
      intro se2 sum y hl
      obtain ⟨w1, w2⟩ := gT _ se2 4 _ (fr, s, 1, co, ycw (bcd bk e), ycw (bcd bk e)) (by
        intro i hi
        rw [y_up, if_neg (by omega), y_up, if_neg (by omega), y_up, if_neg (by omega), y_up, if_neg (by omega), y_up, if_neg (by omega)]) ⟨by
        rw [y_up, if_neg (by omega), y_up, if_neg (by omega), y_up, if_neg (by omega), y_up, if_neg (by omega), y_up, if_pos rfl], by
        rw [y_up, if_neg (by omega), y_up, if_neg (by omega), y_up, if_neg (by omega), y_up, if_pos rfl], by
        rw [y_up, if_neg (by omega), y_up, if_neg (by omega), y_up, if_pos rfl], by
        rw [y_up, if_neg (by omega), y_up, if_pos rfl], by
        rw [y_up, if_pos rfl]; rfl⟩ ⟨rfl, by show 2 ≤ 4; decide, by show 4 ≤ 5; decide⟩ rfl (fun j hj => ⟨(ycw_at _ j hj).symm, (ycw_at _ j hj).symm⟩) hl
      have c6 := hQ se2 (vI (15 * (m : Int))) (vI s) (vI e) (vI sum) (vI 4) y w1 w2
      refine Go_on (fun p => p == 32) 400 ?_; simp only [Ge_s, eM_s, zct_0, zct_I, zct_P, zct_J, eX_iconst, eX_ldc2w, eX_iload, eX_lload, eX_aload, eX_istore, eX_lstore, eX_astore, eX_iinc, eX_iadd, eX_isub, eX_imul, eX_idiv, eX_irem, eX_iand, eX_ishl, eX_ishr, eX_ixor, eX_ineg, eX_dupx2, eX_pop2, eX_land, eX_lor, eX_lshl, eX_lushr, eX_lcmp, eX_i2l, eX_l2i, eX_dup, eX_dup2, eX_ifCond, eX_ificmp, eX_goto, eX_ifnonnull, eX_tableswitch, eX_invokeinterface, eX_multianewarray, eX_getstatic, eX_iaload, eX_laload, eX_baload, eX_aaload, eX_iastore, eX_bastore, eX_lastore, eX_aastore, eX_arraylength, eX_new, eX_newarray, eX_anewarray, eX_invokevirtual, eX_invokestatic, eX_invokespecial, eX_pop, eX_invokedynamic, eX_ireturn, eX_freturn, eX_lreturn, eX_return, eI_s, eJ_s, eP_s, eSI_s, eSJ_s, eSP_s, eInc_s, eAdd_s, eSub_s, eMul_s, eDiv_s, eRem_s, eAnd_s, eXor_s, eNeg_s, eIshl_s, eIshr_s, eDx2_s, ePo2_s, zan_31, zan_255, zan_1, zan_15, zan_m, eLand_s, eLor_s, eLshl_s, eLushr_s, eLcmp_s, eI2l_s, eL2i_s, eDup_s, eDup2_s, eIf_s, eIc_s, eBr_eq, eBr_ne, eBr_lt, eBr_ge, eBr_gt, eBr_le, eNn_s, eNn_n, eG3_s, eG2_s, eGf_s, eP2_s, ePf_s, eAI2_s, eAZ2_s, eAJ2_s, eAQ2_s, eAI_s, eAZ_s, eAJ_s, eAQ_s, eXI2_s, eXZ2_s, eXJ2_s, eXQ2_s, eXI_s, eXZ_s, eXJ_s, eXQ_s, eL2_s, eLn_s, eNa_i, eNa_z, eNa_j, eNq_s, eK_s, eK_n, eR2_s, eRv_s, eRi_s, eCv_s, eCs_s, eCi_s, ePop_s, eMx_s, eMn_s, eCp_s, eCp2_i, eCp2_j, eJd_1, eJd_2, eJd_3, eRI_s, eRZ_s, eRJ_s, eRV_s, zsg_s, zsg_n, zsg_c, List.set_set, Option.map_some, ne_eq, not_false_eq_true, zfit_0, zfit_1, zfit_12, zkd, ↓reduceIte, zc1_I, zc1_P, zset1, zset2, zclr, List.getElem?_cons_zero, List.getElem?_cons_succ, List.set_cons_zero, List.set_cons_succ, List.length_cons, List.length_nil, List.take_succ_cons, List.take_zero, List.drop_succ_cons, List.drop_zero, List.reverse_cons, List.reverse_nil, List.nil_append, List.cons_append, Option.toList_some, Option.toList_none, Nat.reduceAdd, Nat.reduceSub, Nat.reduceLeDiff, Nat.reduceBEq, Nat.reduceEqDiff, Int.reduceToNat, Bool.or_false, Bool.false_or, Bool.or_true, Bool.true_or, Bool.false_eq_true, if_true, if_false, ite_true, ite_false, and_true, true_and, and_self, reduceCtorEq, Int.reduceLT, Int.reduceLE, Int.reduceNeg, Int.reduceAdd, Int.reduceSub, Int.reduceMul, Nat.le_refl, or_true, true_or, or_self, Int.reduceEq, za_113_0, za_113_1]
      ((try unfold zr); (try unfold zix); (repeat' first | exact trivial | assumption | (with_reducible rfl) | omega | (refine And.intro ?_ ?_)))) 4 0 0 x12 (va_up (va_up (va_up (va_up (va_up se (15 * m) fr) (15 * m + 1) s) (15 * m + 2) 1) (15 * m + 3) co) (15 * m + 4) 4) rfl ⟨fun i _ => rfl, fun t ht => absurd ht (by omega)⟩
    have n00 : ((0 : Nat) : Int) = 0 := rfl
    rw [n00] at c5
    refine Go_on (fun p => p == 182) 400 ?_; simp only [Ge_s, eM_s, zct_0, zct_I, zct_P, zct_J, eX_iconst, eX_ldc2w, eX_iload, eX_lload, eX_aload, eX_istore, eX_lstore, eX_astore, eX_iinc, eX_iadd, eX_isub, eX_imul, eX_idiv, eX_irem, eX_iand, eX_ishl, eX_ishr, eX_ixor, eX_ineg, eX_dupx2, eX_pop2, eX_land, eX_lor, eX_lshl, eX_lushr, eX_lcmp, eX_i2l, eX_l2i, eX_dup, eX_dup2, eX_ifCond, eX_ificmp, eX_goto, eX_ifnonnull, eX_tableswitch, eX_invokeinterface, eX_multianewarray, eX_getstatic, eX_iaload, eX_laload, eX_baload, eX_aaload, eX_iastore, eX_bastore, eX_lastore, eX_aastore, eX_arraylength, eX_new, eX_newarray, eX_anewarray, eX_invokevirtual, eX_invokestatic, eX_invokespecial, eX_pop, eX_invokedynamic, eX_ireturn, eX_freturn, eX_lreturn, eX_return, eI_s, eJ_s, eP_s, eSI_s, eSJ_s, eSP_s, eInc_s, eAdd_s, eSub_s, eMul_s, eDiv_s, eRem_s, eAnd_s, eXor_s, eNeg_s, eIshl_s, eIshr_s, eDx2_s, ePo2_s, zan_31, zan_255, zan_1, zan_15, zan_m, eLand_s, eLor_s, eLshl_s, eLushr_s, eLcmp_s, eI2l_s, eL2i_s, eDup_s, eDup2_s, eIf_s, eIc_s, eBr_eq, eBr_ne, eBr_lt, eBr_ge, eBr_gt, eBr_le, eNn_s, eNn_n, eG3_s, eG2_s, eGf_s, eP2_s, ePf_s, eAI2_s, eAZ2_s, eAJ2_s, eAQ2_s, eAI_s, eAZ_s, eAJ_s, eAQ_s, eXI2_s, eXZ2_s, eXJ2_s, eXQ2_s, eXI_s, eXZ_s, eXJ_s, eXQ_s, eL2_s, eLn_s, eNa_i, eNa_z, eNa_j, eNq_s, eK_s, eK_n, eR2_s, eRv_s, eRi_s, eCv_s, eCs_s, eCi_s, ePop_s, eMx_s, eMn_s, eCp_s, eCp2_i, eCp2_j, eJd_1, eJd_2, eJd_3, eRI_s, eRZ_s, eRJ_s, eRV_s, zsg_s, zsg_n, zsg_c, List.set_set, Option.map_some, ne_eq, not_false_eq_true, zfit_0, zfit_1, zfit_12, zkd, ↓reduceIte, zc1_I, zc1_P, zset1, zset2, zclr, List.getElem?_cons_zero, List.getElem?_cons_succ, List.set_cons_zero, List.set_cons_succ, List.length_cons, List.length_nil, List.take_succ_cons, List.take_zero, List.drop_succ_cons, List.drop_zero, List.reverse_cons, List.reverse_nil, List.nil_append, List.cons_append, Option.toList_some, Option.toList_none, Nat.reduceAdd, Nat.reduceSub, Nat.reduceLeDiff, Nat.reduceBEq, Nat.reduceEqDiff, Int.reduceToNat, Bool.or_false, Bool.false_or, Bool.or_true, Bool.true_or, Bool.false_eq_true, if_true, if_false, ite_true, ite_false, and_true, true_and, and_self, reduceCtorEq, Int.reduceLT, Int.reduceLE, Int.reduceNeg, Int.reduceAdd, Int.reduceSub, Int.reduceMul, Nat.le_refl, or_true, true_or, or_self, Int.reduceEq, za_113_0, za_113_1, zf_109, zf_106, zf_104, k34, k37, k35, k36, k34s, k37s, q5, t0, t1, t2, t3, t4, tf, es, u0, b1, n0]
    ((try unfold zr); (try unfold zix); (repeat' first | exact trivial | assumption | (with_reducible rfl) | omega | (refine And.intro ?_ ?_)))
  · have c1 : s = 1 := hv.resolve_right cE
    have he : yfind bk (ysub ms fr s) 0 bk.length = -6 := by
      rcases hE with z | z
      · exact z
      · exact absurd z.1 cE
    have g4 := y4_of hm.2.1 (k := fr) (by omega)
    have g5 := hm.2.2 fr (by omega)
    have eT : ynt co wi bk ms fr s (yEn bk ms fr s) = (fr, s, 0, ypc co wi (ms.getD fr []).length, ypw (ms.getD fr []), ypw (ms.getD fr [])) := by
      unfold ynt
      rw [if_pos he]
    rw [eT] at hQ
    rw [he] at b1
    have b2 := fun s' => l_plain (h := hhS h (va_up qq 5 ((m : Int) + 1)) s') g4 (k34 _ _) u0 u1 qw
    have b3 := fun s' => l_size (h := hhS h (va_up qq 5 ((m : Int) + 1)) s') g4
    have c5 := l_send_p (h := h) (q := q) h34 h36 h37 hm m hm3 fr (by omega) (va_up (va_up (va_up (va_up (va_up se (15 * m) fr) (15 * m + 1) s) (15 * m + 2) 0) (15 * m + 3) (ypc co wi (ms.getD fr []).length)) (15 * m + 4) (((ms.getD fr []).length : Int) + 1)) (by rw [y_up, if_pos rfl]) (va_up qq 5 ((m : Int) + 1)) vb k s Q (by
      intro se2 sum y hl
      obtain ⟨w1, w2⟩ := gT _ se2 ((ms.getD fr []).length + 1) _ (fr, s, 0, ypc co wi (ms.getD fr []).length, ypw (ms.getD fr []), ypw (ms.getD fr [])) (by
        intro i hi
        rw [y_up, if_neg (by omega), y_up, if_neg (by omega), y_up, if_neg (by omega), y_up, if_neg (by omega), y_up, if_neg (by omega)]) ⟨by
        rw [y_up, if_neg (by omega), y_up, if_neg (by omega), y_up, if_neg (by omega), y_up, if_neg (by omega), y_up, if_pos rfl], by
        rw [y_up, if_neg (by omega), y_up, if_neg (by omega), y_up, if_neg (by omega), y_up, if_pos rfl], by
        rw [y_up, if_neg (by omega), y_up, if_neg (by omega), y_up, if_pos rfl], by
        rw [y_up, if_neg (by omega), y_up, if_pos rfl], by
        rw [y_up, if_pos rfl]
        show _ = ((ypw (ms.getD fr [])).length : Int)
        rw [ypw_len]
        omega⟩ ⟨rfl, by
          show 2 ≤ (ypw (ms.getD fr [])).length
          have := g4.1.1.1
          rw [ypw_len]; omega, by
          show (ypw (ms.getD fr [])).length ≤ 5
          have := g4.2
          rw [ypw_len]; omega⟩ (ypw_len _).symm (fun j hj => ⟨(ypw_at _ j (by omega)).symm, (ypw_at _ j (by omega)).symm⟩) hl
      have c6 := hQ se2 (vI (15 * (m : Int))) (vI s) (vI (-6)) (vI sum) (vI (((ms.getD fr []).length + 1 : Nat) : Int)) y w1 w2
      refine Go_on (fun p => p == 32) 400 ?_; simp only [Ge_s, eM_s, zct_0, zct_I, zct_P, zct_J, eX_iconst, eX_ldc2w, eX_iload, eX_lload, eX_aload, eX_istore, eX_lstore, eX_astore, eX_iinc, eX_iadd, eX_isub, eX_imul, eX_idiv, eX_irem, eX_iand, eX_ishl, eX_ishr, eX_ixor, eX_ineg, eX_dupx2, eX_pop2, eX_land, eX_lor, eX_lshl, eX_lushr, eX_lcmp, eX_i2l, eX_l2i, eX_dup, eX_dup2, eX_ifCond, eX_ificmp, eX_goto, eX_ifnonnull, eX_tableswitch, eX_invokeinterface, eX_multianewarray, eX_getstatic, eX_iaload, eX_laload, eX_baload, eX_aaload, eX_iastore, eX_bastore, eX_lastore, eX_aastore, eX_arraylength, eX_new, eX_newarray, eX_anewarray, eX_invokevirtual, eX_invokestatic, eX_invokespecial, eX_pop, eX_invokedynamic, eX_ireturn, eX_freturn, eX_lreturn, eX_return, eI_s, eJ_s, eP_s, eSI_s, eSJ_s, eSP_s, eInc_s, eAdd_s, eSub_s, eMul_s, eDiv_s, eRem_s, eAnd_s, eXor_s, eNeg_s, eIshl_s, eIshr_s, eDx2_s, ePo2_s, zan_31, zan_255, zan_1, zan_15, zan_m, eLand_s, eLor_s, eLshl_s, eLushr_s, eLcmp_s, eI2l_s, eL2i_s, eDup_s, eDup2_s, eIf_s, eIc_s, eBr_eq, eBr_ne, eBr_lt, eBr_ge, eBr_gt, eBr_le, eNn_s, eNn_n, eG3_s, eG2_s, eGf_s, eP2_s, ePf_s, eAI2_s, eAZ2_s, eAJ2_s, eAQ2_s, eAI_s, eAZ_s, eAJ_s, eAQ_s, eXI2_s, eXZ2_s, eXJ2_s, eXQ2_s, eXI_s, eXZ_s, eXJ_s, eXQ_s, eL2_s, eLn_s, eNa_i, eNa_z, eNa_j, eNq_s, eK_s, eK_n, eR2_s, eRv_s, eRi_s, eCv_s, eCs_s, eCi_s, ePop_s, eMx_s, eMn_s, eCp_s, eCp2_i, eCp2_j, eJd_1, eJd_2, eJd_3, eRI_s, eRZ_s, eRJ_s, eRV_s, zsg_s, zsg_n, zsg_c, List.set_set, Option.map_some, ne_eq, not_false_eq_true, zfit_0, zfit_1, zfit_12, zkd, ↓reduceIte, zc1_I, zc1_P, zset1, zset2, zclr, List.getElem?_cons_zero, List.getElem?_cons_succ, List.set_cons_zero, List.set_cons_succ, List.length_cons, List.length_nil, List.take_succ_cons, List.take_zero, List.drop_succ_cons, List.drop_zero, List.reverse_cons, List.reverse_nil, List.nil_append, List.cons_append, Option.toList_some, Option.toList_none, Nat.reduceAdd, Nat.reduceSub, Nat.reduceLeDiff, Nat.reduceBEq, Nat.reduceEqDiff, Int.reduceToNat, Bool.or_false, Bool.false_or, Bool.or_true, Bool.true_or, Bool.false_eq_true, if_true, if_false, ite_true, ite_false, and_true, true_and, and_self, reduceCtorEq, Int.reduceLT, Int.reduceLE, Int.reduceNeg, Int.reduceAdd, Int.reduceSub, Int.reduceMul, Nat.le_refl, or_true, true_or, or_self, Int.reduceEq, za_113_0, za_113_1]
      ((try unfold zr); (try unfold zix); (repeat' first | exact trivial | assumption | (with_reducible rfl) | omega | (refine And.intro ?_ ?_)))) ((ms.getD fr []).length + 1) 0 0 x12 (va_up (va_up (va_up (va_up (va_up se (15 * m) fr) (15 * m + 1) s) (15 * m + 2) 0) (15 * m + 3) (ypc co wi (ms.getD fr []).length)) (15 * m + 4) (((ms.getD fr []).length : Int) + 1)) (by omega) (fun _ => rfl) ⟨fun i _ => rfl, fun t ht => absurd ht (by omega)⟩
    have n00 : ((0 : Nat) : Int) = 0 := rfl
    rw [n00] at c5
    refine Go_on (fun p => p == 182) 400 ?_; simp only [Ge_s, eM_s, zct_0, zct_I, zct_P, zct_J, eX_iconst, eX_ldc2w, eX_iload, eX_lload, eX_aload, eX_istore, eX_lstore, eX_astore, eX_iinc, eX_iadd, eX_isub, eX_imul, eX_idiv, eX_irem, eX_iand, eX_ishl, eX_ishr, eX_ixor, eX_ineg, eX_dupx2, eX_pop2, eX_land, eX_lor, eX_lshl, eX_lushr, eX_lcmp, eX_i2l, eX_l2i, eX_dup, eX_dup2, eX_ifCond, eX_ificmp, eX_goto, eX_ifnonnull, eX_tableswitch, eX_invokeinterface, eX_multianewarray, eX_getstatic, eX_iaload, eX_laload, eX_baload, eX_aaload, eX_iastore, eX_bastore, eX_lastore, eX_aastore, eX_arraylength, eX_new, eX_newarray, eX_anewarray, eX_invokevirtual, eX_invokestatic, eX_invokespecial, eX_pop, eX_invokedynamic, eX_ireturn, eX_freturn, eX_lreturn, eX_return, eI_s, eJ_s, eP_s, eSI_s, eSJ_s, eSP_s, eInc_s, eAdd_s, eSub_s, eMul_s, eDiv_s, eRem_s, eAnd_s, eXor_s, eNeg_s, eIshl_s, eIshr_s, eDx2_s, ePo2_s, zan_31, zan_255, zan_1, zan_15, zan_m, eLand_s, eLor_s, eLshl_s, eLushr_s, eLcmp_s, eI2l_s, eL2i_s, eDup_s, eDup2_s, eIf_s, eIc_s, eBr_eq, eBr_ne, eBr_lt, eBr_ge, eBr_gt, eBr_le, eNn_s, eNn_n, eG3_s, eG2_s, eGf_s, eP2_s, ePf_s, eAI2_s, eAZ2_s, eAJ2_s, eAQ2_s, eAI_s, eAZ_s, eAJ_s, eAQ_s, eXI2_s, eXZ2_s, eXJ2_s, eXQ2_s, eXI_s, eXZ_s, eXJ_s, eXQ_s, eL2_s, eLn_s, eNa_i, eNa_z, eNa_j, eNq_s, eK_s, eK_n, eR2_s, eRv_s, eRi_s, eCv_s, eCs_s, eCi_s, ePop_s, eMx_s, eMn_s, eCp_s, eCp2_i, eCp2_j, eJd_1, eJd_2, eJd_3, eRI_s, eRZ_s, eRJ_s, eRV_s, zsg_s, zsg_n, zsg_c, List.set_set, Option.map_some, ne_eq, not_false_eq_true, zfit_0, zfit_1, zfit_12, zkd, ↓reduceIte, zc1_I, zc1_P, zset1, zset2, zclr, List.getElem?_cons_zero, List.getElem?_cons_succ, List.set_cons_zero, List.set_cons_succ, List.length_cons, List.length_nil, List.take_succ_cons, List.take_zero, List.drop_succ_cons, List.drop_zero, List.reverse_cons, List.reverse_nil, List.nil_append, List.cons_append, Option.toList_some, Option.toList_none, Nat.reduceAdd, Nat.reduceSub, Nat.reduceLeDiff, Nat.reduceBEq, Nat.reduceEqDiff, Int.reduceToNat, Bool.or_false, Bool.false_or, Bool.or_true, Bool.true_or, Bool.false_eq_true, if_true, if_false, ite_true, ite_false, and_true, true_and, and_self, reduceCtorEq, Int.reduceLT, Int.reduceLE, Int.reduceNeg, Int.reduceAdd, Int.reduceSub, Int.reduceMul, Nat.le_refl, or_true, true_or, or_self, Int.reduceEq, za_113_0, za_113_1, zf_109, zf_106, zf_104, k34, k37, k35, k36, k34s, k37s, q5, t0, t1, t2, t3, t4, tf, es, u0, b1, g5, b2, b3]
    ((try unfold zr); (try unfold zix); (repeat' first | exact trivial | assumption | (with_reducible rfl) | omega | (refine And.intro ?_ ?_)))
end
