/-! The class: an entry is appended -/
def hhB (h : zH) (n : Int) (c : Nat → Int) (w : Nat → Nat) : zH := ((h.set 6 (oO 0 [vR 7, vR 8, vI n])).set 7 (aI 16 c)).set 8 (aJ 48 w)
section
variable {h : zH} {F : Nat → Nat → Int} {J : Nat → Nat → Nat} {V : Nat → Int} {P : Nat → Nat → Option Nat} {ws : yF}
set_option maxRecDepth 100000 in
theorem kh_hhB (k : zKH h F J V P) (n : Int) (c : Nat → Int) (w : Nat → Nat) : zKH (hhB h n c w) (uF F 7 c) (uJ J 8 w) (uV V 0 n) P := ks_8 (ks_7 (ks_6 k n) c) w
set_option maxRecDepth 100000 in
theorem hhB_6 (n n' : Int) (c : Nat → Int) (w : Nat → Nat) : (hhB h n c w).set 6 (oO 0 [vR 7, vR 8, vI n']) = hhB h n' c w := by
  unfold hhB
  rw [zsg_c (i := 8) (j := 6) (by omega), zsg_c (i := 7) (j := 6) (by omega), List.set_set]
set_option maxRecDepth 100000 in
theorem hhB_7 (n : Int) (c c' : Nat → Int) (w : Nat → Nat) : (hhB h n c w).set 7 (aI 16 c') = hhB h n c' w := by
  unfold hhB
  rw [zsg_c (i := 8) (j := 7) (by omega), List.set_set]
set_option maxRecDepth 100000 in
theorem hhB_8 (n : Int) (c : Nat → Int) (w w' : Nat → Nat) : (hhB h n c w).set 8 (aJ 48 w') = hhB h n c w' := by
  unfold hhB
  rw [List.set_set]
set_option maxRecDepth 100000 in
theorem hhB_id (k : zKH h F J V P) : hhB h (V 0) (F 7) (J 8) = h := by
  unfold hhB
  rw [zsg_i (kh_6 k), zsg_i (kh_7 k), zsg_i (kh_8 k)]
set_option maxRecDepth 100000 in
theorem hhB_get {n : Int} {c : Nat → Int} {w : Nat → Nat} {t : Nat} (ht : 8 < t) : (hhB h n c w)[t]? = h[t]? := by
  unfold hhB
  rw [zsg_n (by omega), zsg_n (by omega), zsg_n (by omega)]
set_option maxRecDepth 100000 in
theorem c_append_l (k : zKH h F J V P) (hm : rm (V 6) (J 25) ws) (n : Nat) (hn : n < 16) (code : Int) (c : Nat → Int) (Q : zQ) (f0 : Nat → Nat) (hQ : ∀ f : Nat → Nat, (∀ i, f i = if i < 3 * n ∨ 3 * n + 3 ≤ i then f0 i else ypk (ws.getD (i - 3 * n) [])) → Go 11 54 [vR 6, vR 24, vI code, vI 3] [] (hhB h n c f) Q) : ∀ (d j : Nat) (f : Nat → Nat), j + d = 3 → (∀ i, f i = if i < 3 * n ∨ 3 * n + j ≤ i then f0 i else ypk (ws.getD (i - 3 * n) [])) → Go 11 23 [vR 6, vR 24, vI code, vI j] [] (hhB h n c f) Q := by
  intro d
  induction d with
  | zero =>
    intro j f hj hf
    obtain rfl : j = 3 := by omega
    have c3 := hQ f hf
    refine Go_on (fun p => p == 54) 400 ?_; simp only [Ge_s, eM_s, zct_0, zct_I, zct_P, zct_J, eX_iconst, eX_ldc2w, eX_iload, eX_lload, eX_aload, eX_istore, eX_lstore, eX_astore, eX_iinc, eX_iadd, eX_isub, eX_imul, eX_idiv, eX_irem, eX_iand, eX_ishl, eX_ishr, eX_ixor, eX_ineg, eX_dupx2, eX_pop2, eX_land, eX_lor, eX_lshl, eX_lushr, eX_lcmp, eX_i2l, eX_l2i, eX_dup, eX_dup2, eX_ifCond, eX_ificmp, eX_goto, eX_ifnonnull, eX_tableswitch, eX_invokeinterface, eX_multianewarray, eX_getstatic, eX_iaload, eX_laload, eX_baload, eX_aaload, eX_iastore, eX_bastore, eX_lastore, eX_aastore, eX_arraylength, eX_new, eX_newarray, eX_anewarray, eX_invokevirtual, eX_invokestatic, eX_invokespecial, eX_pop, eX_invokedynamic, eX_ireturn, eX_freturn, eX_lreturn, eX_return, eI_s, eJ_s, eP_s, eSI_s, eSJ_s, eSP_s, eInc_s, eAdd_s, eSub_s, eMul_s, eDiv_s, eRem_s, eAnd_s, eXor_s, eNeg_s, eIshl_s, eIshr_s, eDx2_s, ePo2_s, zan_31, zan_255, zan_1, zan_15, zan_m, eLand_s, eLor_s, eLshl_s, eLushr_s, eLcmp_s, eI2l_s, eL2i_s, eDup_s, eDup2_s, eIf_s, eIc_s, eBr_eq, eBr_ne, eBr_lt, eBr_ge, eBr_gt, eBr_le, eNn_s, eNn_n, eG3_s, eG2_s, eGf_s, eP2_s, ePf_s, eAI2_s, eAZ2_s, eAJ2_s, eAQ2_s, eAI_s, eAZ_s, eAJ_s, eAQ_s, eXI2_s, eXZ2_s, eXJ2_s, eXQ2_s, eXI_s, eXZ_s, eXJ_s, eXQ_s, eL2_s, eLn_s, eNa_i, eNa_z, eNa_j, eNq_s, eK_s, eK_n, eR2_s, eRv_s, eRi_s, eCv_s, eCs_s, eCi_s, ePop_s, eMx_s, eMn_s, eCp_s, eCp2_i, eCp2_j, eJd_1, eJd_2, eJd_3, eRI_s, eRZ_s, eRJ_s, eRV_s, zsg_s, zsg_n, zsg_c, List.set_set, Option.map_some, ne_eq, not_false_eq_true, zfit_0, zfit_1, zfit_12, zkd, ↓reduceIte, zc1_I, zc1_P, zset1, zset2, zclr, List.getElem?_cons_zero, List.getElem?_cons_succ, List.set_cons_zero, List.set_cons_succ, List.length_cons, List.length_nil, List.take_succ_cons, List.take_zero, List.drop_succ_cons, List.drop_zero, List.reverse_cons, List.reverse_nil, List.nil_append, List.cons_append, Option.toList_some, Option.toList_none, Nat.reduceAdd, Nat.reduceSub, Nat.reduceLeDiff, Nat.reduceBEq, Nat.reduceEqDiff, Int.reduceToNat, Bool.or_false, Bool.false_or, Bool.or_true, Bool.true_or, Bool.false_eq_true, if_true, if_false, ite_true, ite_false, and_true, true_and, and_self, reduceCtorEq, Int.reduceLT, Int.reduceLE, Int.reduceNeg, Int.reduceAdd, Int.reduceSub, Int.reduceMul, Nat.le_refl, or_true, true_or, or_self, Int.reduceEq, za_11]
    ((try unfold zr); (try unfold zix); (repeat' first | exact trivial | assumption | (with_reducible rfl) | omega | (refine And.intro ?_ ?_)))
  | succ d ih =>
    intro j f hj hf
    have e1 : (j : Int) < 3 := by omega
    have k0 := kh_hhB k n c f
    have b1 := c_wordAt (h := hhB h n c f) (kh_24 k0) (kh_25 k0) hm (j : Int) (by unfold zr; omega)
    rw [ywd_nat] at b1
    have b2 := c_layJ (h := hhB h n c f) (i := (n : Int) * 3 + j) (v := ypk (ws.getD j [])) (kh_8 k0) (by omega) (by omega)
    have e2 : ((n : Int) * 3 + j).toNat = 3 * n + j := by omega
    rw [e2, hhB_8] at b2
    have b2 : ∀ Q, Ca 99 [vR 8, vI ((n : Int) * 3 + j), vJ (ypk (ws.getD j []))] (hhB h n c f) Q ↔ Q none (hhB h n c (va_up f (3 * n + j) (ypk (ws.getD j [])))) := b2
    have c3 := ih (j + 1) (va_up f (3 * n + j) (ypk (ws.getD j []))) (by omega) (by
      intro i
      rw [y_up]
      by_cases x : i = 3 * n + j
      · rw [if_pos x, if_neg (by omega)]
        have : i - 3 * n = j := by omega
        rw [this]
      · rw [if_neg x, hf i]
        by_cases y : i < 3 * n ∨ 3 * n + j ≤ i
        · rw [if_pos y, if_pos (by omega)]
        · rw [if_neg y, if_neg (by omega)])
    have g6 := kh_6 k0
    have e9 : uV V 0 (n : Int) 0 = n := rfl
    rw [e9] at g6
    refine Go_on (fun p => p == 23) 400 ?_; simp only [Ge_s, eM_s, zct_0, zct_I, zct_P, zct_J, eX_iconst, eX_ldc2w, eX_iload, eX_lload, eX_aload, eX_istore, eX_lstore, eX_astore, eX_iinc, eX_iadd, eX_isub, eX_imul, eX_idiv, eX_irem, eX_iand, eX_ishl, eX_ishr, eX_ixor, eX_ineg, eX_dupx2, eX_pop2, eX_land, eX_lor, eX_lshl, eX_lushr, eX_lcmp, eX_i2l, eX_l2i, eX_dup, eX_dup2, eX_ifCond, eX_ificmp, eX_goto, eX_ifnonnull, eX_tableswitch, eX_invokeinterface, eX_multianewarray, eX_getstatic, eX_iaload, eX_laload, eX_baload, eX_aaload, eX_iastore, eX_bastore, eX_lastore, eX_aastore, eX_arraylength, eX_new, eX_newarray, eX_anewarray, eX_invokevirtual, eX_invokestatic, eX_invokespecial, eX_pop, eX_invokedynamic, eX_ireturn, eX_freturn, eX_lreturn, eX_return, eI_s, eJ_s, eP_s, eSI_s, eSJ_s, eSP_s, eInc_s, eAdd_s, eSub_s, eMul_s, eDiv_s, eRem_s, eAnd_s, eXor_s, eNeg_s, eIshl_s, eIshr_s, eDx2_s, ePo2_s, zan_31, zan_255, zan_1, zan_15, zan_m, eLand_s, eLor_s, eLshl_s, eLushr_s, eLcmp_s, eI2l_s, eL2i_s, eDup_s, eDup2_s, eIf_s, eIc_s, eBr_eq, eBr_ne, eBr_lt, eBr_ge, eBr_gt, eBr_le, eNn_s, eNn_n, eG3_s, eG2_s, eGf_s, eP2_s, ePf_s, eAI2_s, eAZ2_s, eAJ2_s, eAQ2_s, eAI_s, eAZ_s, eAJ_s, eAQ_s, eXI2_s, eXZ2_s, eXJ2_s, eXQ2_s, eXI_s, eXZ_s, eXJ_s, eXQ_s, eL2_s, eLn_s, eNa_i, eNa_z, eNa_j, eNq_s, eK_s, eK_n, eR2_s, eRv_s, eRi_s, eCv_s, eCs_s, eCi_s, ePop_s, eMx_s, eMn_s, eCp_s, eCp2_i, eCp2_j, eJd_1, eJd_2, eJd_3, eRI_s, eRZ_s, eRJ_s, eRV_s, zsg_s, zsg_n, zsg_c, List.set_set, Option.map_some, ne_eq, not_false_eq_true, zfit_0, zfit_1, zfit_12, zkd, ↓reduceIte, zc1_I, zc1_P, zset1, zset2, zclr, List.getElem?_cons_zero, List.getElem?_cons_succ, List.set_cons_zero, List.set_cons_succ, List.length_cons, List.length_nil, List.take_succ_cons, List.take_zero, List.drop_succ_cons, List.drop_zero, List.reverse_cons, List.reverse_nil, List.nil_append, List.cons_append, Option.toList_some, Option.toList_none, Nat.reduceAdd, Nat.reduceSub, Nat.reduceLeDiff, Nat.reduceBEq, Nat.reduceEqDiff, Int.reduceToNat, Bool.or_false, Bool.false_or, Bool.or_true, Bool.true_or, Bool.false_eq_true, if_true, if_false, ite_true, ite_false, and_true, true_and, and_self, reduceCtorEq, Int.reduceLT, Int.reduceLE, Int.reduceNeg, Int.reduceAdd, Int.reduceSub, Int.reduceMul, Nat.le_refl, or_true, true_or, or_self, Int.reduceEq, za_11, zf_56, zf_99, e1, g6, kh_24 k0, b1, b2]
    ((try unfold zr); (try unfold zix); (repeat' first | exact trivial | assumption | (with_reducible rfl) | omega | (refine And.intro ?_ ?_)))
set_option maxRecDepth 100000 in
theorem c_append (k : zKH h F J V P) (hm : rm (V 6) (J 25) ws) (n : Nat) (hv : V 0 = n) (hn : n < 16) (code : Int) (Q : zQ) (hQ : ∀ f : Nat → Nat, (∀ i, f i = if i < 3 * n ∨ 3 * n + 3 ≤ i then J 8 i else ypk (ws.getD (i - 3 * n) [])) → Q none (hhB h ((n : Int) + 1) (va_up (F 7) n code) f)) : Ca 11 [vR 6, vR 24, vI code] h Q := by
  have e1 : (n : Int) < 16 := by omega
  have e3 : (n : Int).toNat = n := by omega
  have b1 := c_lay (h := h) (i := (n : Int)) (v := code) (kh_7 k) (by omega) (by omega) (by omega)
  have s1 : h.set 7 (aI 16 (va_up (F 7) n code)) = hhB h n (va_up (F 7) n code) (J 8) := by
    have := hhB_7 (h := h) (V 0) (F 7) (va_up (F 7) n code) (J 8)
    rw [hhB_id k, hv] at this
    exact this
  rw [e3, s1] at b1
  have c3 := c_append_l k hm n hn code (va_up (F 7) n code) Q (J 8) (fun f hf => by
    have c4 := hQ f hf
    have g6 := kh_6 (kh_hhB k n (va_up (F 7) n code) f)
    have e9 : uV V 0 (n : Int) 0 = n := rfl
    rw [e9] at g6
    have s2 := hhB_6 (h := h) n ((n : Int) + 1) (va_up (F 7) n code) f
    refine Go_on (fun _ => false) 400 ?_; simp only [Ge_s, eM_s, zct_0, zct_I, zct_P, zct_J, eX_iconst, eX_ldc2w, eX_iload, eX_lload, eX_aload, eX_istore, eX_lstore, eX_astore, eX_iinc, eX_iadd, eX_isub, eX_imul, eX_idiv, eX_irem, eX_iand, eX_ishl, eX_ishr, eX_ixor, eX_ineg, eX_dupx2, eX_pop2, eX_land, eX_lor, eX_lshl, eX_lushr, eX_lcmp, eX_i2l, eX_l2i, eX_dup, eX_dup2, eX_ifCond, eX_ificmp, eX_goto, eX_ifnonnull, eX_tableswitch, eX_invokeinterface, eX_multianewarray, eX_getstatic, eX_iaload, eX_laload, eX_baload, eX_aaload, eX_iastore, eX_bastore, eX_lastore, eX_aastore, eX_arraylength, eX_new, eX_newarray, eX_anewarray, eX_invokevirtual, eX_invokestatic, eX_invokespecial, eX_pop, eX_invokedynamic, eX_ireturn, eX_freturn, eX_lreturn, eX_return, eI_s, eJ_s, eP_s, eSI_s, eSJ_s, eSP_s, eInc_s, eAdd_s, eSub_s, eMul_s, eDiv_s, eRem_s, eAnd_s, eXor_s, eNeg_s, eIshl_s, eIshr_s, eDx2_s, ePo2_s, zan_31, zan_255, zan_1, zan_15, zan_m, eLand_s, eLor_s, eLshl_s, eLushr_s, eLcmp_s, eI2l_s, eL2i_s, eDup_s, eDup2_s, eIf_s, eIc_s, eBr_eq, eBr_ne, eBr_lt, eBr_ge, eBr_gt, eBr_le, eNn_s, eNn_n, eG3_s, eG2_s, eGf_s, eP2_s, ePf_s, eAI2_s, eAZ2_s, eAJ2_s, eAQ2_s, eAI_s, eAZ_s, eAJ_s, eAQ_s, eXI2_s, eXZ2_s, eXJ2_s, eXQ2_s, eXI_s, eXZ_s, eXJ_s, eXQ_s, eL2_s, eLn_s, eNa_i, eNa_z, eNa_j, eNq_s, eK_s, eK_n, eR2_s, eRv_s, eRi_s, eCv_s, eCs_s, eCi_s, ePop_s, eMx_s, eMn_s, eCp_s, eCp2_i, eCp2_j, eJd_1, eJd_2, eJd_3, eRI_s, eRZ_s, eRJ_s, eRV_s, zsg_s, zsg_n, zsg_c, List.set_set, Option.map_some, ne_eq, not_false_eq_true, zfit_0, zfit_1, zfit_12, zkd, ↓reduceIte, zc1_I, zc1_P, zset1, zset2, zclr, List.getElem?_cons_zero, List.getElem?_cons_succ, List.set_cons_zero, List.set_cons_succ, List.length_cons, List.length_nil, List.take_succ_cons, List.take_zero, List.drop_succ_cons, List.drop_zero, List.reverse_cons, List.reverse_nil, List.nil_append, List.cons_append, Option.toList_some, Option.toList_none, Nat.reduceAdd, Nat.reduceSub, Nat.reduceLeDiff, Nat.reduceBEq, Nat.reduceEqDiff, Int.reduceToNat, Bool.or_false, Bool.false_or, Bool.or_true, Bool.true_or, Bool.false_eq_true, if_true, if_false, ite_true, ite_false, and_true, true_and, and_self, reduceCtorEq, Int.reduceLT, Int.reduceLE, Int.reduceNeg, Int.reduceAdd, Int.reduceSub, Int.reduceMul, Nat.le_refl, or_true, true_or, or_self, Int.reduceEq, za_11, g6, s2]
    ((try unfold zr); (try unfold zix); (repeat' first | exact trivial | assumption | (with_reducible rfl) | omega | (refine And.intro ?_ ?_)))) 3 0 (J 8) rfl (by
    intro i
    rw [if_pos (by omega)])
  rw [ce_11, ← Ge_eq (fun p => p == 23) 11 _ 400]; simp only [Ge_s, eM_s, zct_0, zct_I, zct_P, zct_J, eX_iconst, eX_ldc2w, eX_iload, eX_lload, eX_aload, eX_istore, eX_lstore, eX_astore, eX_iinc, eX_iadd, eX_isub, eX_imul, eX_idiv, eX_irem, eX_iand, eX_ishl, eX_ishr, eX_ixor, eX_ineg, eX_dupx2, eX_pop2, eX_land, eX_lor, eX_lshl, eX_lushr, eX_lcmp, eX_i2l, eX_l2i, eX_dup, eX_dup2, eX_ifCond, eX_ificmp, eX_goto, eX_ifnonnull, eX_tableswitch, eX_invokeinterface, eX_multianewarray, eX_getstatic, eX_iaload, eX_laload, eX_baload, eX_aaload, eX_iastore, eX_bastore, eX_lastore, eX_aastore, eX_arraylength, eX_new, eX_newarray, eX_anewarray, eX_invokevirtual, eX_invokestatic, eX_invokespecial, eX_pop, eX_invokedynamic, eX_ireturn, eX_freturn, eX_lreturn, eX_return, eI_s, eJ_s, eP_s, eSI_s, eSJ_s, eSP_s, eInc_s, eAdd_s, eSub_s, eMul_s, eDiv_s, eRem_s, eAnd_s, eXor_s, eNeg_s, eIshl_s, eIshr_s, eDx2_s, ePo2_s, zan_31, zan_255, zan_1, zan_15, zan_m, eLand_s, eLor_s, eLshl_s, eLushr_s, eLcmp_s, eI2l_s, eL2i_s, eDup_s, eDup2_s, eIf_s, eIc_s, eBr_eq, eBr_ne, eBr_lt, eBr_ge, eBr_gt, eBr_le, eNn_s, eNn_n, eG3_s, eG2_s, eGf_s, eP2_s, ePf_s, eAI2_s, eAZ2_s, eAJ2_s, eAQ2_s, eAI_s, eAZ_s, eAJ_s, eAQ_s, eXI2_s, eXZ2_s, eXJ2_s, eXQ2_s, eXI_s, eXZ_s, eXJ_s, eXQ_s, eL2_s, eLn_s, eNa_i, eNa_z, eNa_j, eNq_s, eK_s, eK_n, eR2_s, eRv_s, eRi_s, eCv_s, eCs_s, eCi_s, ePop_s, eMx_s, eMn_s, eCp_s, eCp2_i, eCp2_j, eJd_1, eJd_2, eJd_3, eRI_s, eRZ_s, eRJ_s, eRV_s, zsg_s, zsg_n, zsg_c, List.set_set, Option.map_some, ne_eq, not_false_eq_true, zfit_0, zfit_1, zfit_12, zkd, ↓reduceIte, zc1_I, zc1_P, zset1, zset2, zclr, List.getElem?_cons_zero, List.getElem?_cons_succ, List.set_cons_zero, List.set_cons_succ, List.length_cons, List.length_nil, List.take_succ_cons, List.take_zero, List.drop_succ_cons, List.drop_zero, List.reverse_cons, List.reverse_nil, List.nil_append, List.cons_append, Option.toList_some, Option.toList_none, Nat.reduceAdd, Nat.reduceSub, Nat.reduceLeDiff, Nat.reduceBEq, Nat.reduceEqDiff, Int.reduceToNat, Bool.or_false, Bool.false_or, Bool.or_true, Bool.true_or, Bool.false_eq_true, if_true, if_false, ite_true, ite_false, and_true, true_and, and_self, reduceCtorEq, Int.reduceLT, Int.reduceLE, Int.reduceNeg, Int.reduceAdd, Int.reduceSub, Int.reduceMul, Nat.le_refl, or_true, true_or, or_self, Int.reduceEq, za_11, zf_98, kh_6 k, hv, e1, b1]
  ((try unfold zr); (try unfold zix); (repeat' first | exact trivial | assumption | (with_reducible rfl) | omega | (refine And.intro ?_ ?_)))
end
