/-! The law: send, and the class's sending -/
def lsm (bk : yB) (ms : yF) (co wi : Int) : Nat → List Nat → List yT
  | _, [] => []
  | i, s :: r => ynt co wi bk ms i s (yEn bk ms i s) :: lsm bk ms co wi (i + s) r
set_option maxRecDepth 100000 in
theorem lsm_len (bk : yB) (ms : yF) (co wi : Int) : ∀ (l : List Nat) (i : Nat), (lsm bk ms co wi i l).length = l.length := by
  intro l
  induction l with
  | nil => intro i; rfl
  | cons s r ih => intro i; show (lsm bk ms co wi (i + s) r).length + 1 = r.length + 1; rw [ih]
set_option maxRecDepth 100000 in
theorem lsr_snoc {se se2 : Nat → Int} {ts : List yT} {t : yT} (hl : ts.length ≤ 3) (h : lsr se ts) (e : ∀ i, i < 15 * ts.length → se2 i = se i) (ht : lwd se2 ts.length t) : lsr se2 (ts ++ [t]) := by
  refine ⟨by rw [List.length_append, List.length_singleton]; omega, fun w hw => ?_⟩
  rw [List.length_append, List.length_singleton] at hw
  rw [sw_snoc]
  by_cases c : w = ts.length
  · rw [if_pos c, c]; exact ht
  · rw [if_neg c]
    exact lwd_cg (h.2 w (by omega)) (fun i h1 h2 => e i (by omega))
section
variable {h : zH} {q en me se0 : Nat → Int} {bk : yB} {ms : yF} {co wi ap : Int}
set_option maxRecDepth 100000 in
theorem l_send_l (h34 : h[34]? = some (aI 7 q)) (h35 : h[35]? = some (aI 50 en)) (h36 : h[36]? = some (aI 4 me)) (h37 : h[37]? = some (aI 60 se0)) (hb : lb en bk) (hm : lm me ms) (b : Nat) (hb16 : b < 16) (Q : zQ) : ∀ (d k fr : Nat) (ts : List yT) (qq se : Nat → Int) (x7 x8 x9 x10 x11 x12 : zV), k + d = ms.length → fr ≤ k → ts.length ≤ fr → 0 ≤ wco (lsc bk ms co wi (-1)) fr (lsp ms.length b d k fr) → lq qq co wi ap bk.length ms.length → qq 5 = ts.length → lsr se ts →
    (∀ qq2 se2, lsr se2 (ts ++ lsm bk ms co wi fr (lsp ms.length b d k fr)) → lq qq2 co wi ap bk.length ms.length → qq2 5 = ((ts ++ lsm bk ms co wi fr (lsp ms.length b d k fr)).length : Nat) → qq2 6 = qq 6 → Q none (hhS h qq2 se2)) →
    Go 113 32 [vR 34, vR 35, vR 36, vR 37, vI b, vI fr, vI k, x7, x8, x9, x10, x11, x12] [] (hhS h qq se) Q := by
  intro d
  have l10 := hb.1
  have l4 := hm.1
  have k34 := fun a s => hS_34 (h := h) h34 a s
  have zm : zwr (b : Int) = b := zwr_in (by unfold zr; omega)
  induction d with
  | zero =>
    intro k fr ts qq se x7 x8 x9 x10 x11 x12 hk hf hts hw hq q5 hr hQ
    obtain rfl : k = ms.length := by omega
    have e0 : lsm bk ms co wi fr (lsp ms.length b 0 ms.length fr) = [] := rfl
    rw [e0, List.append_nil] at hQ
    have c3 := hQ qq se hr hq q5 rfl
    have q4 := hq.1.2.2.2.2
    refine Go_on (fun _ => false) 400 ?_; simp only [Ge_s, eM_s, zct_0, zct_I, zct_P, zct_J, eX_iconst, eX_ldc2w, eX_iload, eX_lload, eX_aload, eX_istore, eX_lstore, eX_astore, eX_iinc, eX_iadd, eX_isub, eX_imul, eX_idiv, eX_irem, eX_iand, eX_ishl, eX_ishr, eX_ixor, eX_ineg, eX_dupx2, eX_pop2, eX_land, eX_lor, eX_lshl, eX_lushr, eX_lcmp, eX_i2l, eX_l2i, eX_dup, eX_dup2, eX_ifCond, eX_ificmp, eX_goto, eX_ifnonnull, eX_tableswitch, eX_invokeinterface, eX_multianewarray, eX_getstatic, eX_iaload, eX_laload, eX_baload, eX_aaload, eX_iastore, eX_bastore, eX_lastore, eX_aastore, eX_arraylength, eX_new, eX_newarray, eX_anewarray, eX_invokevirtual, eX_invokestatic, eX_invokespecial, eX_pop, eX_invokedynamic, eX_ireturn, eX_freturn, eX_lreturn, eX_return, eI_s, eJ_s, eP_s, eSI_s, eSJ_s, eSP_s, eInc_s, eAdd_s, eSub_s, eMul_s, eDiv_s, eRem_s, eAnd_s, eXor_s, eNeg_s, eIshl_s, eIshr_s, eDx2_s, ePo2_s, zan_31, zan_255, zan_1, zan_15, zan_m, eLand_s, eLor_s, eLshl_s, eLushr_s, eLcmp_s, eI2l_s, eL2i_s, eDup_s, eDup2_s, eIf_s, eIc_s, eBr_eq, eBr_ne, eBr_lt, eBr_ge, eBr_gt, eBr_le, eNn_s, eNn_n, eG3_s, eG2_s, eGf_s, eP2_s, ePf_s, eAI2_s, eAZ2_s, eAJ2_s, eAQ2_s, eAI_s, eAZ_s, eAJ_s, eAQ_s, eXI2_s, eXZ2_s, eXJ2_s, eXQ2_s, eXI_s, eXZ_s, eXJ_s, eXQ_s, eL2_s, eLn_s, eNa_i, eNa_z, eNa_j, eNq_s, eK_s, eK_n, eR2_s, eRv_s, eRi_s, eCv_s, eCs_s, eCi_s, ePop_s, eMx_s, eMn_s, eCp_s, eCp2_i, eCp2_j, eJd_1, eJd_2, eJd_3, eRI_s, eRZ_s, eRJ_s, eRV_s, zsg_s, zsg_n, zsg_c, List.set_set, Option.map_some, ne_eq, not_false_eq_true, zfit_0, zfit_1, zfit_12, zkd, ↓reduceIte, zc1_I, zc1_P, zset1, zset2, zclr, List.getElem?_cons_zero, List.getElem?_cons_succ, List.set_cons_zero, List.set_cons_succ, List.length_cons, List.length_nil, List.take_succ_cons, List.take_zero, List.drop_succ_cons, List.drop_zero, List.reverse_cons, List.reverse_nil, List.nil_append, List.cons_append, Option.toList_some, Option.toList_none, Nat.reduceAdd, Nat.reduceSub, Nat.reduceLeDiff, Nat.reduceBEq, Nat.reduceEqDiff, Int.reduceToNat, Bool.or_false, Bool.false_or, Bool.or_true, Bool.true_or, Bool.false_eq_true, if_true, if_false, ite_true, ite_false, and_true, true_and, and_self, reduceCtorEq, Int.reduceLT, Int.reduceLE, Int.reduceNeg, Int.reduceAdd, Int.reduceSub, Int.reduceMul, Nat.le_refl, or_true, true_or, or_self, Int.reduceEq, za_113_0, za_113_1, k34, q4, Int.lt_irrefl]
    ((try unfold zr); (try unfold zix); (repeat' first | exact trivial | assumption | (with_reducible rfl) | omega | (refine And.intro ?_ ?_)))
  | succ d ih =>
    intro k fr ts qq se x7 x8 x9 x10 x11 x12 hk hf hts hw hq q5 hr hQ
    have e1 : (k : Int) < ms.length := by omega
    have q4 := hq.1.2.2.2.2
    have tk : ((k : Int)).toNat = k := Int.toNat_natCast k
    have e2 : lsp ms.length b (d + 1) k fr = if k + 1 < ms.length ∧ (b : Int) / 2 ^ k % 2 = 0 then lsp ms.length b d (k + 1) fr else (k - fr + 1) :: lsp ms.length b d (k + 1) (k + 1) := rfl
    rw [e2] at hw hQ
    have seg : ¬ (k + 1 < ms.length ∧ (b : Int) / 2 ^ k % 2 = 0) → Go 113 63 [vR 34, vR 35, vR 36, vR 37, vI b, vI fr, vI k, x7, x8, x9, x10, x11, x12] [] (hhS h qq se) Q := by
      intro c0
      rw [if_neg c0] at hw hQ
      obtain ⟨s, hs⟩ : ∃ s, s = k - fr + 1 := ⟨_, rfl⟩
      rw [← hs] at hw hQ
      have e3 : wco (lsc bk ms co wi (-1)) fr (s :: lsp ms.length b d (k + 1) (k + 1)) = if lsc bk ms co wi (-1) fr s < 0 then -1 else if wco (lsc bk ms co wi (-1)) (fr + s) (lsp ms.length b d (k + 1) (k + 1)) < 0 then -1 else lsc bk ms co wi (-1) fr s + wco (lsc bk ms co wi (-1)) (fr + s) (lsp ms.length b d (k + 1) (k + 1)) := rfl
      have ek : fr + s = k + 1 := by omega
      rw [e3, ek] at hw
      have v1 : ¬ lsc bk ms co wi (-1) fr s < 0 := fun z => by rw [if_pos z] at hw; omega
      rw [if_neg v1] at hw
      have v2 : ¬ wco (lsc bk ms co wi (-1)) (k + 1) (lsp ms.length b d (k + 1) (k + 1)) < 0 := fun z => by rw [if_pos z] at hw; omega
      have v3 : s ≤ 3 ∧ (s = 1 ∨ 0 ≤ yEn bk ms fr s) := by
        unfold lsc at v1
        by_cases g : s ≤ 3 ∧ 0 ≤ yEn bk ms fr s ∧ yEn bk ms fr s ≠ -1
        · exact ⟨g.1, Or.inr g.2.1⟩
        · rw [if_neg g] at v1
          by_cases g2 : s = 1
          · exact ⟨by omega, Or.inl g2⟩
          · rw [if_neg g2] at v1; omega
      refine l_seg h34 h35 h36 h37 hb hm ts.length (by omega) b fr s k ek (by omega) (by omega) v3.1 v3.2 qq hq q5 se x7 x8 x9 x10 x11 x12 Q ?_
      intro se2 y7 y8 y9 y10 y11 y12 g1 g2
      have n1 : ((k : Int) + 1) = ((k + 1 : Nat) : Int) := by omega
      rw [n1]
      have e4 : lsm bk ms co wi fr (s :: lsp ms.length b d (k + 1) (k + 1)) = ynt co wi bk ms fr s (yEn bk ms fr s) :: lsm bk ms co wi (k + 1) (lsp ms.length b d (k + 1) (k + 1)) := by
        show ynt co wi bk ms fr s (yEn bk ms fr s) :: lsm bk ms co wi (fr + s) (lsp ms.length b d (k + 1) (k + 1)) = _
        rw [ek]
      rw [e4, List.append_cons] at hQ
      refine ih (k + 1) (k + 1) (ts ++ [ynt co wi bk ms fr s (yEn bk ms fr s)]) (va_up qq 5 ((ts.length : Int) + 1)) se2 y7 y8 y9 y10 y11 y12 (by omega) (Nat.le_refl _) (by rw [List.length_append, List.length_singleton]; omega) (by omega) (lq_up hq (by omega) _) ?_ (lsr_snoc (by omega) hr g1 g2) ?_
      · rw [y_up, if_pos rfl, List.length_append, List.length_singleton]; omega
      · intro qq2 se3 a1 a2 a3 a4
        refine hQ qq2 se3 a1 a2 a3 ?_
        rw [a4, y_up, if_neg (by omega)]
    by_cases c1 : (k : Int) < (ms.length : Int) - 1
    · by_cases c2 : (b : Int) / 2 ^ k % 2 = 0
      · rw [if_pos ⟨by omega, c2⟩] at hw hQ
        have c5 := ih (k + 1) fr ts qq se x7 x8 x9 x10 x11 x12 (by omega) (by omega) hts hw hq q5 hr hQ
        refine Go_on (fun p => p == 32) 400 ?_; simp only [Ge_s, eM_s, zct_0, zct_I, zct_P, zct_J, eX_iconst, eX_ldc2w, eX_iload, eX_lload, eX_aload, eX_istore, eX_lstore, eX_astore, eX_iinc, eX_iadd, eX_isub, eX_imul, eX_idiv, eX_irem, eX_iand, eX_ishl, eX_ishr, eX_ixor, eX_ineg, eX_dupx2, eX_pop2, eX_land, eX_lor, eX_lshl, eX_lushr, eX_lcmp, eX_i2l, eX_l2i, eX_dup, eX_dup2, eX_ifCond, eX_ificmp, eX_goto, eX_ifnonnull, eX_tableswitch, eX_invokeinterface, eX_multianewarray, eX_getstatic, eX_iaload, eX_laload, eX_baload, eX_aaload, eX_iastore, eX_bastore, eX_lastore, eX_aastore, eX_arraylength, eX_new, eX_newarray, eX_anewarray, eX_invokevirtual, eX_invokestatic, eX_invokespecial, eX_pop, eX_invokedynamic, eX_ireturn, eX_freturn, eX_lreturn, eX_return, eI_s, eJ_s, eP_s, eSI_s, eSJ_s, eSP_s, eInc_s, eAdd_s, eSub_s, eMul_s, eDiv_s, eRem_s, eAnd_s, eXor_s, eNeg_s, eIshl_s, eIshr_s, eDx2_s, ePo2_s, zan_31, zan_255, zan_1, zan_15, zan_m, eLand_s, eLor_s, eLshl_s, eLushr_s, eLcmp_s, eI2l_s, eL2i_s, eDup_s, eDup2_s, eIf_s, eIc_s, eBr_eq, eBr_ne, eBr_lt, eBr_ge, eBr_gt, eBr_le, eNn_s, eNn_n, eG3_s, eG2_s, eGf_s, eP2_s, ePf_s, eAI2_s, eAZ2_s, eAJ2_s, eAQ2_s, eAI_s, eAZ_s, eAJ_s, eAQ_s, eXI2_s, eXZ2_s, eXJ2_s, eXQ2_s, eXI_s, eXZ_s, eXJ_s, eXQ_s, eL2_s, eLn_s, eNa_i, eNa_z, eNa_j, eNq_s, eK_s, eK_n, eR2_s, eRv_s, eRi_s, eCv_s, eCs_s, eCi_s, ePop_s, eMx_s, eMn_s, eCp_s, eCp2_i, eCp2_j, eJd_1, eJd_2, eJd_3, eRI_s, eRZ_s, eRJ_s, eRV_s, zsg_s, zsg_n, zsg_c, List.set_set, Option.map_some, ne_eq, not_false_eq_true, zfit_0, zfit_1, zfit_12, zkd, ↓reduceIte, zc1_I, zc1_P, zset1, zset2, zclr, List.getElem?_cons_zero, List.getElem?_cons_succ, List.set_cons_zero, List.set_cons_succ, List.length_cons, List.length_nil, List.take_succ_cons, List.take_zero, List.drop_succ_cons, List.drop_zero, List.reverse_cons, List.reverse_nil, List.nil_append, List.cons_append, Option.toList_some, Option.toList_none, Nat.reduceAdd, Nat.reduceSub, Nat.reduceLeDiff, Nat.reduceBEq, Nat.reduceEqDiff, Int.reduceToNat, Bool.or_false, Bool.false_or, Bool.or_true, Bool.true_or, Bool.false_eq_true, if_true, if_false, ite_true, ite_false, and_true, true_and, and_self, reduceCtorEq, Int.reduceLT, Int.reduceLE, Int.reduceNeg, Int.reduceAdd, Int.reduceSub, Int.reduceMul, Nat.le_refl, or_true, true_or, or_self, Int.reduceEq, za_113_0, za_113_1, k34, q4, e1, c1, tk, zm, c2]
        ((try unfold zr); (try unfold zix); (repeat' first | exact trivial | assumption | (with_reducible rfl) | omega | (refine And.intro ?_ ?_)))
      · have c5 := seg (fun z => c2 z.2)
        refine Go_on (fun p => p == 63) 400 ?_; simp only [Ge_s, eM_s, zct_0, zct_I, zct_P, zct_J, eX_iconst, eX_ldc2w, eX_iload, eX_lload, eX_aload, eX_istore, eX_lstore, eX_astore, eX_iinc, eX_iadd, eX_isub, eX_imul, eX_idiv, eX_irem, eX_iand, eX_ishl, eX_ishr, eX_ixor, eX_ineg, eX_dupx2, eX_pop2, eX_land, eX_lor, eX_lshl, eX_lushr, eX_lcmp, eX_i2l, eX_l2i, eX_dup, eX_dup2, eX_ifCond, eX_ificmp, eX_goto, eX_ifnonnull, eX_tableswitch, eX_invokeinterface, eX_multianewarray, eX_getstatic, eX_iaload, eX_laload, eX_baload, eX_aaload, eX_iastore, eX_bastore, eX_lastore, eX_aastore, eX_arraylength, eX_new, eX_newarray, eX_anewarray, eX_invokevirtual, eX_invokestatic, eX_invokespecial, eX_pop, eX_invokedynamic, eX_ireturn, eX_freturn, eX_lreturn, eX_return, eI_s, eJ_s, eP_s, eSI_s, eSJ_s, eSP_s, eInc_s, eAdd_s, eSub_s, eMul_s, eDiv_s, eRem_s, eAnd_s, eXor_s, eNeg_s, eIshl_s, eIshr_s, eDx2_s, ePo2_s, zan_31, zan_255, zan_1, zan_15, zan_m, eLand_s, eLor_s, eLshl_s, eLushr_s, eLcmp_s, eI2l_s, eL2i_s, eDup_s, eDup2_s, eIf_s, eIc_s, eBr_eq, eBr_ne, eBr_lt, eBr_ge, eBr_gt, eBr_le, eNn_s, eNn_n, eG3_s, eG2_s, eGf_s, eP2_s, ePf_s, eAI2_s, eAZ2_s, eAJ2_s, eAQ2_s, eAI_s, eAZ_s, eAJ_s, eAQ_s, eXI2_s, eXZ2_s, eXJ2_s, eXQ2_s, eXI_s, eXZ_s, eXJ_s, eXQ_s, eL2_s, eLn_s, eNa_i, eNa_z, eNa_j, eNq_s, eK_s, eK_n, eR2_s, eRv_s, eRi_s, eCv_s, eCs_s, eCi_s, ePop_s, eMx_s, eMn_s, eCp_s, eCp2_i, eCp2_j, eJd_1, eJd_2, eJd_3, eRI_s, eRZ_s, eRJ_s, eRV_s, zsg_s, zsg_n, zsg_c, List.set_set, Option.map_some, ne_eq, not_false_eq_true, zfit_0, zfit_1, zfit_12, zkd, ↓reduceIte, zc1_I, zc1_P, zset1, zset2, zclr, List.getElem?_cons_zero, List.getElem?_cons_succ, List.set_cons_zero, List.set_cons_succ, List.length_cons, List.length_nil, List.take_succ_cons, List.take_zero, List.drop_succ_cons, List.drop_zero, List.reverse_cons, List.reverse_nil, List.nil_append, List.cons_append, Option.toList_some, Option.toList_none, Nat.reduceAdd, Nat.reduceSub, Nat.reduceLeDiff, Nat.reduceBEq, Nat.reduceEqDiff, Int.reduceToNat, Bool.or_false, Bool.false_or, Bool.or_true, Bool.true_or, Bool.false_eq_true, if_true, if_false, ite_true, ite_false, and_true, true_and, and_self, reduceCtorEq, Int.reduceLT, Int.reduceLE, Int.reduceNeg, Int.reduceAdd, Int.reduceSub, Int.reduceMul, Nat.le_refl, or_true, true_or, or_self, Int.reduceEq, za_113_0, za_113_1, k34, q4, e1, c1, tk, zm, c2]
        ((try unfold zr); (try unfold zix); (repeat' first | exact trivial | assumption | (with_reducible rfl) | omega | (refine And.intro ?_ ?_)))
    · have c5 := seg (fun z => c1 (by omega))
      refine Go_on (fun p => p == 63) 400 ?_; simp only [Ge_s, eM_s, zct_0, zct_I, zct_P, zct_J, eX_iconst, eX_ldc2w, eX_iload, eX_lload, eX_aload, eX_istore, eX_lstore, eX_astore, eX_iinc, eX_iadd, eX_isub, eX_imul, eX_idiv, eX_irem, eX_iand, eX_ishl, eX_ishr, eX_ixor, eX_ineg, eX_dupx2, eX_pop2, eX_land, eX_lor, eX_lshl, eX_lushr, eX_lcmp, eX_i2l, eX_l2i, eX_dup, eX_dup2, eX_ifCond, eX_ificmp, eX_goto, eX_ifnonnull, eX_tableswitch, eX_invokeinterface, eX_multianewarray, eX_getstatic, eX_iaload, eX_laload, eX_baload, eX_aaload, eX_iastore, eX_bastore, eX_lastore, eX_aastore, eX_arraylength, eX_new, eX_newarray, eX_anewarray, eX_invokevirtual, eX_invokestatic, eX_invokespecial, eX_pop, eX_invokedynamic, eX_ireturn, eX_freturn, eX_lreturn, eX_return, eI_s, eJ_s, eP_s, eSI_s, eSJ_s, eSP_s, eInc_s, eAdd_s, eSub_s, eMul_s, eDiv_s, eRem_s, eAnd_s, eXor_s, eNeg_s, eIshl_s, eIshr_s, eDx2_s, ePo2_s, zan_31, zan_255, zan_1, zan_15, zan_m, eLand_s, eLor_s, eLshl_s, eLushr_s, eLcmp_s, eI2l_s, eL2i_s, eDup_s, eDup2_s, eIf_s, eIc_s, eBr_eq, eBr_ne, eBr_lt, eBr_ge, eBr_gt, eBr_le, eNn_s, eNn_n, eG3_s, eG2_s, eGf_s, eP2_s, ePf_s, eAI2_s, eAZ2_s, eAJ2_s, eAQ2_s, eAI_s, eAZ_s, eAJ_s, eAQ_s, eXI2_s, eXZ2_s, eXJ2_s, eXQ2_s, eXI_s, eXZ_s, eXJ_s, eXQ_s, eL2_s, eLn_s, eNa_i, eNa_z, eNa_j, eNq_s, eK_s, eK_n, eR2_s, eRv_s, eRi_s, eCv_s, eCs_s, eCi_s, ePop_s, eMx_s, eMn_s, eCp_s, eCp2_i, eCp2_j, eJd_1, eJd_2, eJd_3, eRI_s, eRZ_s, eRJ_s, eRV_s, zsg_s, zsg_n, zsg_c, List.set_set, Option.map_some, ne_eq, not_false_eq_true, zfit_0, zfit_1, zfit_12, zkd, ↓reduceIte, zc1_I, zc1_P, zset1, zset2, zclr, List.getElem?_cons_zero, List.getElem?_cons_succ, List.set_cons_zero, List.set_cons_succ, List.length_cons, List.length_nil, List.take_succ_cons, List.take_zero, List.drop_succ_cons, List.drop_zero, List.reverse_cons, List.reverse_nil, List.nil_append, List.cons_append, Option.toList_some, Option.toList_none, Nat.reduceAdd, Nat.reduceSub, Nat.reduceLeDiff, Nat.reduceBEq, Nat.reduceEqDiff, Int.reduceToNat, Bool.or_false, Bool.false_or, Bool.or_true, Bool.true_or, Bool.false_eq_true, if_true, if_false, ite_true, ite_false, and_true, true_and, and_self, reduceCtorEq, Int.reduceLT, Int.reduceLE, Int.reduceNeg, Int.reduceAdd, Int.reduceSub, Int.reduceMul, Nat.le_refl, or_true, true_or, or_self, Int.reduceEq, za_113_0, za_113_1, k34, q4, e1, c1]
      ((try unfold zr); (try unfold zix); (repeat' first | exact trivial | assumption | (with_reducible rfl) | omega | (refine And.intro ?_ ?_)))
set_option maxRecDepth 100000 in
theorem lsc_cc (hb : lb en bk) (hm : lm me ms) {wo wo2 : Int} (hwo : ∀ E : Int, (E = -6 ∨ 0 ≤ E) → ((0 ≤ E ∧ E ≠ wo) ↔ (E ≠ -6 ∧ E ≠ wo2))) : (∀ i s, i < ms.length → 1 ≤ s → s ≤ 3 → lsc bk ms co wi wo i s = ycc (yE bk ms (-6) 0 i) wo2 (ypm co wi ms i) co s) ∧ ∀ i s, 3 < s → lsc bk ms co wi wo i s < 0 := by
  refine ⟨fun i s hi h1 h3 => ?_, fun i s h3 => ?_⟩
  · have e1 : yE bk ms (-6) 0 i s = yEn bk ms i s := by
      unfold yE
      rw [if_neg (fun z => by omega)]
    have r := hwo (yEn bk ms i s) (by
      rcases yfind_r bk (ysub ms i s) with z | z
      · exact Or.inl z
      · exact Or.inr z.1)
    unfold lsc ycc
    rw [e1]
    by_cases c : 0 ≤ yEn bk ms i s ∧ yEn bk ms i s ≠ wo
    · rw [if_pos ⟨h3, c⟩, if_pos (r.1 c)]
    · rw [if_neg (fun z => c z.2), if_neg (fun z => c (r.2 z))]
      rfl
  · unfold lsc
    rw [if_neg (fun z => by omega), if_neg (by omega)]
    omega
set_option maxRecDepth 100000 in
theorem lwo_m : ∀ E : Int, (E = -6 ∨ 0 ≤ E) → ((0 ≤ E ∧ E ≠ -1) ↔ (E ≠ -6 ∧ E ≠ -6)) := by intro E hE; omega
set_option maxRecDepth 100000 in
theorem lwo_e (e : Nat) : ∀ E : Int, (E = -6 ∨ 0 ≤ E) → ((0 ≤ E ∧ E ≠ e) ↔ (E ≠ -6 ∧ E ≠ e)) := by intro E hE; omega
set_option maxRecDepth 100000 in
theorem ypm_co (hc : 1 ≤ co ∧ co ≤ 99) (hw : 2 ≤ wi ∧ wi ≤ 15) (hm : lm me ms) : ∀ i, i < ms.length → co ≤ ypm co wi ms i := by
  intro i hi
  have g4 := y4_of hm.2.1 (k := i) hi
  exact (ypc_r4 hc hw g4.1.1.1 g4.2).1
-- the law's best way, and what it costs, are those of the class's plan
def lbw (bk : yB) (ms : yF) (co wi wo wo2 : Int) (b : Nat) : Prop := b < 8 ∧ (lbs (lK bk ms co wi wo) (2 ^ (ms.length - 1))).1 = b ∧ lK bk ms co wi wo b = ((yDs co wi bk ms wo2 (-6) 0).getD 0 yq0).1 ∧ lsp ms.length b ms.length 0 0 = dwy (yTt (yE bk ms (-6) 0) wo2 (ypm co wi ms) co ms.length) ms.length ms.length 0
set_option maxRecDepth 100000 in
theorem lbw_of (hc : 1 ≤ co ∧ co ≤ 99) (hw : 2 ≤ wi ∧ wi ≤ 15) (hb : lb en bk) (hm : lm me ms) (h1 : 1 ≤ ms.length) {wo wo2 : Int} (hwo : ∀ E : Int, (E = -6 ∨ 0 ≤ E) → ((0 ≤ E ∧ E ≠ wo) ↔ (E ≠ -6 ∧ E ≠ wo2))) : ∃ b, lbw bk ms co wi wo wo2 b := by
  obtain ⟨c1, c2⟩ := lsc_cc (co := co) (wi := wi) hb hm hwo
  obtain ⟨b, ⟨g1, g2⟩, g3, g4, g5⟩ := way_eq (E := yE bk ms (-6) 0) (wo := wo2) (pc := ypm co wi ms) (co := co) (n := ms.length) (c := lsc bk ms co wi wo) (by omega) (ypm_co hc hw hm) c1 c2 h1 hm.1
  exact ⟨b, g1, congrArg Prod.fst g3, g5, g4⟩
set_option maxRecDepth 100000 in
theorem lsm_ns (hc : 1 ≤ co ∧ co ≤ 99) (hw : 2 ≤ wi ∧ wi ≤ 15) (hm : lm me ms) : ∀ f i, yns co wi bk ms (yDs co wi bk ms (-6) (-6) 0) f i = lsm bk ms co wi i (dwy (yTt (yE bk ms (-6) 0) (-6) (ypm co wi ms) co ms.length) ms.length f i) := by
  intro f
  induction f with
  | zero => intro i; rfl
  | succ f ih =>
    intro i
    have e1 : yns co wi bk ms (yDs co wi bk ms (-6) (-6) 0) (f + 1) i = if i < ms.length then ynt co wi bk ms i (yTt (yE bk ms (-6) 0) (-6) (ypm co wi ms) co ms.length i).2.2.1 (yTt (yE bk ms (-6) 0) (-6) (ypm co wi ms) co ms.length i).2.2.2 :: yns co wi bk ms (yDs co wi bk ms (-6) (-6) 0) f (i + (yTt (yE bk ms (-6) 0) (-6) (ypm co wi ms) co ms.length i).2.2.1) else [] := rfl
    have e2 : dwy (yTt (yE bk ms (-6) 0) (-6) (ypm co wi ms) co ms.length) ms.length (f + 1) i = if i < ms.length then (yTt (yE bk ms (-6) 0) (-6) (ypm co wi ms) co ms.length i).2.2.1 :: dwy (yTt (yE bk ms (-6) 0) (-6) (ypm co wi ms) co ms.length) ms.length f (i + (yTt (yE bk ms (-6) 0) (-6) (ypm co wi ms) co ms.length i).2.2.1) else [] := rfl
    rw [e1, e2]
    by_cases hi : i < ms.length
    · rw [if_pos hi, if_pos hi]
      obtain ⟨s, a1, a2, a3, a4, a5, a6⟩ := yT_opt (E := yE bk ms (-6) 0) (wo := -6) (pc := ypm co wi ms) (co := co) (n := ms.length) (by omega) (ypm_co hc hw hm) hi
      rw [a1, a5]
      have e3 : yE bk ms (-6) 0 i s = yEn bk ms i s := by
        unfold yE
        rw [if_neg (fun z => by omega)]
      have e4 : (if yE bk ms (-6) 0 i s ≠ -6 ∧ yE bk ms (-6) 0 i s ≠ -6 then yE bk ms (-6) 0 i s else -6) = yEn bk ms i s := by
        rw [e3]
        by_cases c : yEn bk ms i s = -6
        · rw [if_neg (fun z => z.1 c), c]
        · rw [if_pos ⟨c, c⟩]
      rw [e4, ih]
      rfl
    · rw [if_neg hi, if_neg hi]
      rfl
set_option maxRecDepth 100000 in
theorem l_send (h34 : h[34]? = some (aI 7 q)) (h35 : h[35]? = some (aI 50 en)) (h36 : h[36]? = some (aI 4 me)) (h37 : h[37]? = some (aI 60 se0)) (hq : lq q co wi ap bk.length ms.length) (hb : lb en bk) (hm : lm me ms) (h1 : 1 ≤ ms.length) (Q : zQ) (hQ : ∀ qq2 se2, lsr se2 (ysn co wi bk ms) → lq qq2 co wi ap bk.length ms.length → qq2 5 = ((ysn co wi bk ms).length : Nat) → qq2 6 = ((yDs co wi bk ms (-6) (-6) 0).getD 0 yq0).1 → Q none (hhS h qq2 se2)) : Ca 113 [vR 34, vR 35, vR 36, vR 37] h Q := by
  obtain ⟨q0, qc, qw, qa⟩ := id hq
  have l4 := hm.1
  obtain ⟨b, b8, b1, b2, b3⟩ := lbw_of qc qw hb hm h1 lwo_m
  have c1 := l_best (h := h) h34 h35 h36 hq hb hm (-1) (by unfold zr; omega) h1
  rw [b1] at c1
  have k34 := fun a s => hS_34 (h := h) h34 a s
  have k34s := fun a a' s => hS_s34 (h := h) a a' s
  have hq2 := lq_up hq (i := 5) (by omega) 0
  have c2 := l_cost (h := hhS h (va_up q 5 0) se0) (k34 _ _) ((hS_n (by omega) (by omega) _ _).trans h35) ((hS_n (by omega) (by omega) _ _).trans h36) hq2 hb hm b (by omega) (-1) (by unfold zr; omega)
  have c2 : ∀ Q, Ca 110 [vI b, vI (-1), vR 34, vR 35, vR 36] (hhS h (va_up q 5 0) se0) Q ↔ Q (some (vI (lK bk ms co wi (-1) b))) (hhS h (va_up q 5 0) se0) := c2
  have hK2 := lct_eq (lsc bk ms co wi (-1)) ms.length b ms.length 0 0 0 (Nat.le_refl _)
  have hK3 : lK bk ms co wi (-1) b = if wco (lsc bk ms co wi (-1)) 0 (lsp ms.length b ms.length 0 0) < 0 then -1 else 0 + wco (lsc bk ms co wi (-1)) 0 (lsp ms.length b ms.length 0 0) := hK2
  have nn : 0 ≤ lK bk ms co wi (-1) b := by
    obtain ⟨g1, g2⟩ := lsc_cc (co := co) (wi := wi) hb hm lwo_m
    have d := dwy_ok (E := yE bk ms (-6) 0) (wo := -6) (pc := ypm co wi ms) (co := co) (n := ms.length) (c := lsc bk ms co wi (-1)) (by omega) (ypm_co qc qw hm) g1 ms.length 0 (by omega) (by omega)
    rw [b2]
    exact d.2.1.2
  have wv : 0 ≤ wco (lsc bk ms co wi (-1)) 0 (lsp ms.length b ms.length 0 0) := by
    rcases Int.lt_or_le (wco (lsc bk ms co wi (-1)) 0 (lsp ms.length b ms.length 0 0)) 0 with g | g
    · rw [if_pos g] at hK3; omega
    · exact g
  have c5 := l_send_l (h := h) (ap := ap) h34 h35 h36 h37 hb hm b (by omega) Q ms.length 0 0 [] (va_up (va_up q 5 0) 6 (lK bk ms co wi (-1) b)) se0 vU vU vU vU vU vU (by omega) (Nat.le_refl _) (Nat.le_refl _) wv (lq_up hq2 (by omega) _) (by rw [y_up, if_neg (by omega), y_up, if_pos rfl]; rfl) ⟨by show 0 ≤ 4; omega, fun w hw => absurd hw (by simp)⟩ (by
    intro qq2 se2 a1 a2 a3 a4
    rw [List.nil_append, b3, ← lsm_ns qc qw hm] at a1 a3
    refine hQ qq2 se2 a1 a2 a3 ?_
    rw [a4, y_up, if_pos rfl, b2])
  have n00 : ((0 : Nat) : Int) = 0 := rfl
  rw [n00] at c5
  have hid := hS_id h34 h37
  have c1 : ∀ Q, Ca 112 [vI (-1), vR 34, vR 35, vR 36] (hhS h q se0) Q ↔ Q (some (vI b)) (hhS h q se0) := by rw [hid]; exact c1
  rw [← hid]
  rw [ce_113, ← Ge_eq (fun p => p == 32) 113 _ 400]; simp only [Ge_s, eM_s, zct_0, zct_I, zct_P, zct_J, eX_iconst, eX_ldc2w, eX_iload, eX_lload, eX_aload, eX_istore, eX_lstore, eX_astore, eX_iinc, eX_iadd, eX_isub, eX_imul, eX_idiv, eX_irem, eX_iand, eX_ishl, eX_ishr, eX_ixor, eX_ineg, eX_dupx2, eX_pop2, eX_land, eX_lor, eX_lshl, eX_lushr, eX_lcmp, eX_i2l, eX_l2i, eX_dup, eX_dup2, eX_ifCond, eX_ificmp, eX_goto, eX_ifnonnull, eX_tableswitch, eX_invokeinterface, eX_multianewarray, eX_getstatic, eX_iaload, eX_laload, eX_baload, eX_aaload, eX_iastore, eX_bastore, eX_lastore, eX_aastore, eX_arraylength, eX_new, eX_newarray, eX_anewarray, eX_invokevirtual, eX_invokestatic, eX_invokespecial, eX_pop, eX_invokedynamic, eX_ireturn, eX_freturn, eX_lreturn, eX_return, eI_s, eJ_s, eP_s, eSI_s, eSJ_s, eSP_s, eInc_s, eAdd_s, eSub_s, eMul_s, eDiv_s, eRem_s, eAnd_s, eXor_s, eNeg_s, eIshl_s, eIshr_s, eDx2_s, ePo2_s, zan_31, zan_255, zan_1, zan_15, zan_m, eLand_s, eLor_s, eLshl_s, eLushr_s, eLcmp_s, eI2l_s, eL2i_s, eDup_s, eDup2_s, eIf_s, eIc_s, eBr_eq, eBr_ne, eBr_lt, eBr_ge, eBr_gt, eBr_le, eNn_s, eNn_n, eG3_s, eG2_s, eGf_s, eP2_s, ePf_s, eAI2_s, eAZ2_s, eAJ2_s, eAQ2_s, eAI_s, eAZ_s, eAJ_s, eAQ_s, eXI2_s, eXZ2_s, eXJ2_s, eXQ2_s, eXI_s, eXZ_s, eXJ_s, eXQ_s, eL2_s, eLn_s, eNa_i, eNa_z, eNa_j, eNq_s, eK_s, eK_n, eR2_s, eRv_s, eRi_s, eCv_s, eCs_s, eCi_s, ePop_s, eMx_s, eMn_s, eCp_s, eCp2_i, eCp2_j, eJd_1, eJd_2, eJd_3, eRI_s, eRZ_s, eRJ_s, eRV_s, zsg_s, zsg_n, zsg_c, List.set_set, Option.map_some, ne_eq, not_false_eq_true, zfit_0, zfit_1, zfit_12, zkd, ↓reduceIte, zc1_I, zc1_P, zset1, zset2, zclr, List.getElem?_cons_zero, List.getElem?_cons_succ, List.set_cons_zero, List.set_cons_succ, List.length_cons, List.length_nil, List.take_succ_cons, List.take_zero, List.drop_succ_cons, List.drop_zero, List.reverse_cons, List.reverse_nil, List.nil_append, List.cons_append, Option.toList_some, Option.toList_none, Nat.reduceAdd, Nat.reduceSub, Nat.reduceLeDiff, Nat.reduceBEq, Nat.reduceEqDiff, Int.reduceToNat, Bool.or_false, Bool.false_or, Bool.or_true, Bool.true_or, Bool.false_eq_true, if_true, if_false, ite_true, ite_false, and_true, true_and, and_self, reduceCtorEq, Int.reduceLT, Int.reduceLE, Int.reduceNeg, Int.reduceAdd, Int.reduceSub, Int.reduceMul, Nat.le_refl, or_true, true_or, or_self, Int.reduceEq, za_113_0, za_113_1, zf_112, zf_110, k34, k34s, c1, c2]
  ((try unfold zr); (try unfold zix); (repeat' first | exact trivial | assumption | (with_reducible rfl) | omega | (refine And.intro ?_ ?_)))
end
