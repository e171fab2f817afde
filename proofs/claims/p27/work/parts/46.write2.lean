/-! The class: the sent words are written -/
set_option maxRecDepth 100000 in
theorem c_atN {h : zH} {a n : Nat} {f : Nat → Int} (hh : h[a]? = some (aI n f)) (hn : n < 2147483648) (i : Nat) (hi : i < n) (Q : zQ) : Ca 96 [vR a, vI i] h Q ↔ Q (some (vI (f i))) h := by
  rw [c_at hh hn (by unfold zr; omega), atI_in (by omega)]
  exact Iff.rfl
set_option maxRecDepth 100000 in
theorem c_layN {h : zH} {a n : Nat} {f : Nat → Int} {v : Int} (hh : h[a]? = some (aI n f)) (hn : n < 2147483648) (ha : 3 ≤ a) (i : Nat) (hi : i < n) (Q : zQ) : Ca 98 [vR a, vI i, vI v] h Q ↔ Q none (h.set a (aI n (va_up f i v))) := by
  rw [c_lay hh hn ha (by omega)]
  exact Iff.rfl
def yfw (h : zH) (F : Nat → Nat → Int) (V : Nat → Int) (h2 : zH) (F2 : Nat → Nat → Int) (V2 : Nat → Int) : Prop := ((∀ t, t < 12 ∨ 18 ≤ t → F2 t = F t) ∧ ∀ t, t ≠ 1 → V2 t = V t) ∧ (∀ t, t < 9 ∨ 18 ≤ t → h2[t]? = h[t]?) ∧ h2.length = h.length
def yW1 (F F2 : Nat → Nat → Int) (m : Nat) (co pa : Int) (l : List Nat) : Prop := (F2 12 = F 12 ∧ F2 13 = F 13) ∧ (∀ u, F2 14 u = if u = m then co else F 14 u) ∧ (∀ u, F2 15 u = if u = m then pa else F 15 u) ∧ (∀ u, F2 16 u = if u = m then (l.length : Int) else F 16 u) ∧ ∀ t, F2 17 t = if 13 * m ≤ t ∧ t < 13 * m + l.length then ((l.getD (t - 13 * m) 0 : Nat) : Int) else F 17 t
section
variable {h h2 h3 : zH} {F F2 F3 : Nat → Nat → Int} {J : Nat → Nat → Nat} {V V2 V3 : Nat → Int} {P : Nat → Nat → Option Nat} {bk : yB} {co wi ap : Int} {ms : yF}
set_option maxRecDepth 100000 in
theorem yfw.tr (a : yfw h F V h2 F2 V2) (b : yfw h2 F2 V2 h3 F3 V3) : yfw h F V h3 F3 V3 := ⟨⟨fun t ht => (b.1.1 t ht).trans (a.1.1 t ht), fun t ht => (b.1.2 t ht).trans (a.1.2 t ht)⟩, fun t ht => (b.2.1 t ht).trans (a.2.1 t ht), b.2.2.trans a.2.2⟩
set_option maxRecDepth 100000 in
theorem hhT_id (k : zKH h F J V P) : hhT h (F 16) (F 17) = h := by
  unfold hhT
  rw [zsg_i (kh_16 k), zsg_i (kh_17 k)]
set_option maxRecDepth 100000 in
theorem c_write_168 (k : zKH h F J V P) (m i sp : Nat) (en : zV) (hV : V 1 = m) (hsp : F 29 i = sp ∧ 1 ≤ sp ∧ sp ≤ 3) (hi : i < 12) (Q : zQ) (hQ : Go 50 7 [vR 9, vR 4, vR 26, vI ((i + sp : Nat) : Int), en] [] (h.set 9 (oO 7 [vR 10, vR 12, vR 13, vR 14, vR 15, vR 16, vR 17, vR 18, vI ((m : Int) + 1)])) Q) : Go 50 168 [vR 9, vR 4, vR 26, vI i, en] [] h Q := by
  have k1 := ks_9 k ((m : Int) + 1)
  have b1 := c_atN (kh_29 k1) (by omega) i hi
  rw [hsp.1] at b1
  have e : (if (1 : Int) < (sp : Int) then (sp : Int) else 1) = sp := by split <;> omega
  have e2 : ((i + sp : Nat) : Int) = (i : Int) + sp := by omega
  rw [e2] at hQ
  refine Go_on (fun p => p == 7) 400 ?_; simp only [Ge_s, eM_s, zct_0, zct_I, zct_P, zct_J, eX_iconst, eX_ldc2w, eX_iload, eX_lload, eX_aload, eX_istore, eX_lstore, eX_astore, eX_iinc, eX_iadd, eX_isub, eX_imul, eX_idiv, eX_irem, eX_iand, eX_ishl, eX_ishr, eX_ixor, eX_ineg, eX_dupx2, eX_pop2, eX_land, eX_lor, eX_lshl, eX_lushr, eX_lcmp, eX_i2l, eX_l2i, eX_dup, eX_dup2, eX_ifCond, eX_ificmp, eX_goto, eX_ifnonnull, eX_tableswitch, eX_invokeinterface, eX_multianewarray, eX_getstatic, eX_iaload, eX_laload, eX_baload, eX_aaload, eX_iastore, eX_bastore, eX_lastore, eX_aastore, eX_arraylength, eX_new, eX_newarray, eX_anewarray, eX_invokevirtual, eX_invokestatic, eX_invokespecial, eX_pop, eX_invokedynamic, eX_ireturn, eX_freturn, eX_lreturn, eX_return, eI_s, eJ_s, eP_s, eSI_s, eSJ_s, eSP_s, eInc_s, eAdd_s, eSub_s, eMul_s, eDiv_s, eRem_s, eAnd_s, eXor_s, eNeg_s, eIshl_s, eIshr_s, eDx2_s, ePo2_s, zan_31, zan_255, zan_1, zan_15, zan_m, eLand_s, eLor_s, eLshl_s, eLushr_s, eLcmp_s, eI2l_s, eL2i_s, eDup_s, eDup2_s, eIf_s, eIc_s, eBr_eq, eBr_ne, eBr_lt, eBr_ge, eBr_gt, eBr_le, eNn_s, eNn_n, eG3_s, eG2_s, eGf_s, eP2_s, ePf_s, eAI2_s, eAZ2_s, eAJ2_s, eAQ2_s, eAI_s, eAZ_s, eAJ_s, eAQ_s, eXI2_s, eXZ2_s, eXJ2_s, eXQ2_s, eXI_s, eXZ_s, eXJ_s, eXQ_s, eL2_s, eLn_s, eNa_i, eNa_z, eNa_j, eNq_s, eK_s, eK_n, eR2_s, eRv_s, eRi_s, eCv_s, eCs_s, eCi_s, ePop_s, eMx_s, eMn_s, eCp_s, eCp2_i, eCp2_j, eJd_1, eJd_2, eJd_3, eRI_s, eRZ_s, eRJ_s, eRV_s, zsg_s, zsg_n, zsg_c, List.set_set, Option.map_some, ne_eq, not_false_eq_true, zfit_0, zfit_1, zfit_12, zkd, ↓reduceIte, zc1_I, zc1_P, zset1, zset2, zclr, List.getElem?_cons_zero, List.getElem?_cons_succ, List.set_cons_zero, List.set_cons_succ, List.length_cons, List.length_nil, List.take_succ_cons, List.take_zero, List.drop_succ_cons, List.drop_zero, List.reverse_cons, List.reverse_nil, List.nil_append, List.cons_append, Option.toList_some, Option.toList_none, Nat.reduceAdd, Nat.reduceSub, Nat.reduceLeDiff, Nat.reduceBEq, Nat.reduceEqDiff, Int.reduceToNat, Bool.or_false, Bool.false_or, Bool.or_true, Bool.true_or, Bool.false_eq_true, if_true, if_false, ite_true, ite_false, and_true, true_and, and_self, reduceCtorEq, Int.reduceLT, Int.reduceLE, Int.reduceNeg, Int.reduceAdd, Int.reduceSub, Int.reduceMul, Nat.le_refl, or_true, true_or, or_self, Int.reduceEq, za_50, zf_96, kh_9 k, hV, kh_26 k, kh_26 k1, b1, e]
  ((try unfold zr); (try unfold zix); (repeat' first | exact trivial | assumption | (with_reducible rfl) | omega | (refine And.intro ?_ ?_)))
set_option maxRecDepth 100000 in
theorem c_write_P (k : zKH h F J V P) (hs : rs (F 5) co wi ap) (hm : rm (V 2) (J 11) ms) (m i : Nat) (hi : i < ms.length) (hV : V 1 = m ∧ m < 12) (h16 : F 16 m = 0) (Q : zQ) (hQ : ∀ h2 F2, zKH h2 F2 J V P → yfw h F V h2 F2 V → yW1 F F2 m 0 (ypc co wi (ms.getD i []).length) (ypw (ms.getD i [])) → Go 50 168 [vR 9, vR 4, vR 26, vI i, vI (-6)] [] h2 Q) : Go 50 71 [vR 9, vR 4, vR 26, vI i, vI (-6)] [] h Q := by
  have w1 := rm_w hm i
  have l12 := hm.1.2
  have bw := c_wordAt (h := h) (kh_10 k) (kh_11 k) hm (i : Int) (by unfold zr; omega)
  rw [ywd_nat] at bw
  have c3 := c_writePlain k m hV w1.1 w1.2 (F 16) (F 17) h16 (eK (fun pc ls st h => Go 50 pc ls st h Q) 90 [vR 9, vR 4, vR 26, vI i, vI (-6)] []) (fun a s ha hs' => by
    rw [eK_n]
    have k1 := kh_hhT k a s
    have g9 : (hhT h a s)[9]? = some (oO 7 [vR 10, vR 12, vR 13, vR 14, vR 15, vR 16, vR 17, vR 18, vI (V 1)]) := kh_9 k1
    have bw1 := c_wordAt (h := hhT h a s) (kh_10 k1) (kh_11 k1) hm (i : Int) (by unfold zr; omega)
    rw [ywd_nat] at bw1
    have bp := c_plainCost (h := hhT h a s) k1 hs w1.1 w1.2
    have g15 : (hhT h a s)[15]? = some (aI 12 (F 15)) := by have x := kh_15 k1; exact x
    have b15 := c_layN (v := ypc co wi (ms.getD i []).length) g15 (by omega) (by omega) m hV.2
    have k2 := ks_15 k1 (va_up (F 15) m (ypc co wi (ms.getD i []).length))
    have g9' : ((hhT h a s).set 15 (aI 12 (va_up (F 15) m (ypc co wi (ms.getD i []).length))))[9]? = some (oO 7 [vR 10, vR 12, vR 13, vR 14, vR 15, vR 16, vR 17, vR 18, vI (V 1)]) := by have x := kh_9 k2; exact x
    have g14 : ((hhT h a s).set 15 (aI 12 (va_up (F 15) m (ypc co wi (ms.getD i []).length))))[14]? = some (aI 12 (F 14)) := by have x := kh_14 k2; exact x
    have b14 := c_layN (v := 0) g14 (by omega) (by omega) m hV.2
    have k3 := ks_14 k2 (va_up (F 14) m 0)
    have c4 := hQ _ _ k3 ⟨⟨fun t ht => by
        rw [uF_out (by omega), uF_out (by omega), uF_out (by omega), uF_out (by omega)], fun _ _ => rfl⟩, fun t ht => by
        rw [zsg_n (by omega), zsg_n (by omega)]
        unfold hhT
        rw [zsg_n (by omega), zsg_n (by omega)], by
        unfold hhT
        simp only [List.length_set]⟩ ⟨⟨rfl, rfl⟩, fun u => y_up _ _ _ _, fun u => y_up _ _ _ _, fun u => by
        rw [ypw_len]
        exact ha u, fun t => by
        rw [ypw_len]
        refine (hs' t).trans ?_
        by_cases x : 13 * m ≤ t ∧ t < 13 * m + ((ms.getD i []).length + 1)
        · rw [if_pos x, if_pos x, ypw_at _ _ (by omega)]
        · rw [if_neg x, if_neg x]⟩
    rw [zsg_c (i := 15) (j := 14) (by omega)] at c4
    refine Go_on (fun p => p == 168) 400 ?_; simp only [Ge_s, eM_s, zct_0, zct_I, zct_P, zct_J, eX_iconst, eX_ldc2w, eX_iload, eX_lload, eX_aload, eX_istore, eX_lstore, eX_astore, eX_iinc, eX_iadd, eX_isub, eX_imul, eX_idiv, eX_irem, eX_iand, eX_ishl, eX_ishr, eX_ixor, eX_ineg, eX_dupx2, eX_pop2, eX_land, eX_lor, eX_lshl, eX_lushr, eX_lcmp, eX_i2l, eX_l2i, eX_dup, eX_dup2, eX_ifCond, eX_ificmp, eX_goto, eX_ifnonnull, eX_tableswitch, eX_invokeinterface, eX_multianewarray, eX_getstatic, eX_iaload, eX_laload, eX_baload, eX_aaload, eX_iastore, eX_bastore, eX_lastore, eX_aastore, eX_arraylength, eX_new, eX_newarray, eX_anewarray, eX_invokevirtual, eX_invokestatic, eX_invokespecial, eX_pop, eX_invokedynamic, eX_ireturn, eX_freturn, eX_lreturn, eX_return, eI_s, eJ_s, eP_s, eSI_s, eSJ_s, eSP_s, eInc_s, eAdd_s, eSub_s, eMul_s, eDiv_s, eRem_s, eAnd_s, eXor_s, eNeg_s, eIshl_s, eIshr_s, eDx2_s, ePo2_s, zan_31, zan_255, zan_1, zan_15, zan_m, eLand_s, eLor_s, eLshl_s, eLushr_s, eLcmp_s, eI2l_s, eL2i_s, eDup_s, eDup2_s, eIf_s, eIc_s, eBr_eq, eBr_ne, eBr_lt, eBr_ge, eBr_gt, eBr_le, eNn_s, eNn_n, eG3_s, eG2_s, eGf_s, eP2_s, ePf_s, eAI2_s, eAZ2_s, eAJ2_s, eAQ2_s, eAI_s, eAZ_s, eAJ_s, eAQ_s, eXI2_s, eXZ2_s, eXJ2_s, eXQ2_s, eXI_s, eXZ_s, eXJ_s, eXQ_s, eL2_s, eLn_s, eNa_i, eNa_z, eNa_j, eNq_s, eK_s, eK_n, eR2_s, eRv_s, eRi_s, eCv_s, eCs_s, eCi_s, ePop_s, eMx_s, eMn_s, eCp_s, eCp2_i, eCp2_j, eJd_1, eJd_2, eJd_3, eRI_s, eRZ_s, eRJ_s, eRV_s, zsg_s, zsg_n, zsg_c, List.set_set, Option.map_some, ne_eq, not_false_eq_true, zfit_0, zfit_1, zfit_12, zkd, ↓reduceIte, zc1_I, zc1_P, zset1, zset2, zclr, List.getElem?_cons_zero, List.getElem?_cons_succ, List.set_cons_zero, List.set_cons_succ, List.length_cons, List.length_nil, List.take_succ_cons, List.take_zero, List.drop_succ_cons, List.drop_zero, List.reverse_cons, List.reverse_nil, List.nil_append, List.cons_append, Option.toList_some, Option.toList_none, Nat.reduceAdd, Nat.reduceSub, Nat.reduceLeDiff, Nat.reduceBEq, Nat.reduceEqDiff, Int.reduceToNat, Bool.or_false, Bool.false_or, Bool.or_true, Bool.true_or, Bool.false_eq_true, if_true, if_false, ite_true, ite_false, and_true, true_and, and_self, reduceCtorEq, Int.reduceLT, Int.reduceLE, Int.reduceNeg, Int.reduceAdd, Int.reduceSub, Int.reduceMul, Nat.le_refl, or_true, true_or, or_self, Int.reduceEq, za_50, zf_56, zf_39, zf_98, g9, g9', kh_10 k1, kh_4 k1, hV.1, bw1, bp, b15, b14]
    ((try unfold zr); (try unfold zix); (repeat' first | exact trivial | assumption | (with_reducible rfl) | omega | (refine And.intro ?_ ?_))))
  rw [hhT_id k] at c3
  refine Go_on (fun p => p == 168 || p == 90) 400 ?_; simp only [Ge_s, eM_s, zct_0, zct_I, zct_P, zct_J, eX_iconst, eX_ldc2w, eX_iload, eX_lload, eX_aload, eX_istore, eX_lstore, eX_astore, eX_iinc, eX_iadd, eX_isub, eX_imul, eX_idiv, eX_irem, eX_iand, eX_ishl, eX_ishr, eX_ixor, eX_ineg, eX_dupx2, eX_pop2, eX_land, eX_lor, eX_lshl, eX_lushr, eX_lcmp, eX_i2l, eX_l2i, eX_dup, eX_dup2, eX_ifCond, eX_ificmp, eX_goto, eX_ifnonnull, eX_tableswitch, eX_invokeinterface, eX_multianewarray, eX_getstatic, eX_iaload, eX_laload, eX_baload, eX_aaload, eX_iastore, eX_bastore, eX_lastore, eX_aastore, eX_arraylength, eX_new, eX_newarray, eX_anewarray, eX_invokevirtual, eX_invokestatic, eX_invokespecial, eX_pop, eX_invokedynamic, eX_ireturn, eX_freturn, eX_lreturn, eX_return, eI_s, eJ_s, eP_s, eSI_s, eSJ_s, eSP_s, eInc_s, eAdd_s, eSub_s, eMul_s, eDiv_s, eRem_s, eAnd_s, eXor_s, eNeg_s, eIshl_s, eIshr_s, eDx2_s, ePo2_s, zan_31, zan_255, zan_1, zan_15, zan_m, eLand_s, eLor_s, eLshl_s, eLushr_s, eLcmp_s, eI2l_s, eL2i_s, eDup_s, eDup2_s, eIf_s, eIc_s, eBr_eq, eBr_ne, eBr_lt, eBr_ge, eBr_gt, eBr_le, eNn_s, eNn_n, eG3_s, eG2_s, eGf_s, eP2_s, ePf_s, eAI2_s, eAZ2_s, eAJ2_s, eAQ2_s, eAI_s, eAZ_s, eAJ_s, eAQ_s, eXI2_s, eXZ2_s, eXJ2_s, eXQ2_s, eXI_s, eXZ_s, eXJ_s, eXQ_s, eL2_s, eLn_s, eNa_i, eNa_z, eNa_j, eNq_s, eK_s, eK_n, eR2_s, eRv_s, eRi_s, eCv_s, eCs_s, eCi_s, ePop_s, eMx_s, eMn_s, eCp_s, eCp2_i, eCp2_j, eJd_1, eJd_2, eJd_3, eRI_s, eRZ_s, eRJ_s, eRV_s, zsg_s, zsg_n, zsg_c, List.set_set, Option.map_some, ne_eq, not_false_eq_true, zfit_0, zfit_1, zfit_12, zkd, ↓reduceIte, zc1_I, zc1_P, zset1, zset2, zclr, List.getElem?_cons_zero, List.getElem?_cons_succ, List.set_cons_zero, List.set_cons_succ, List.length_cons, List.length_nil, List.take_succ_cons, List.take_zero, List.drop_succ_cons, List.drop_zero, List.reverse_cons, List.reverse_nil, List.nil_append, List.cons_append, Option.toList_some, Option.toList_none, Nat.reduceAdd, Nat.reduceSub, Nat.reduceLeDiff, Nat.reduceBEq, Nat.reduceEqDiff, Int.reduceToNat, Bool.or_false, Bool.false_or, Bool.or_true, Bool.true_or, Bool.false_eq_true, if_true, if_false, ite_true, ite_false, and_true, true_and, and_self, reduceCtorEq, Int.reduceLT, Int.reduceLE, Int.reduceNeg, Int.reduceAdd, Int.reduceSub, Int.reduceMul, Nat.le_refl, or_true, true_or, or_self, Int.reduceEq, za_50, zf_56, zf_51, kh_9 k, kh_10 k, bw, eq_true (show (-6 : Int) = -6 from rfl)]
  ((try unfold zr); (try unfold zix); (repeat' first | exact trivial | assumption | (with_reducible rfl) | omega | (refine And.intro ?_ ?_)))
set_option maxRecDepth 100000 in
theorem c_write_C (k : zKH h F J V P) (hs : rs (F 5) co wi ap) (hb : rb (V 0) (F 7) (J 8) bk) (m i e : Nat) (hi : i < 12) (he : e < bk.length) (hV : V 1 = m ∧ m < 12) (h16 : F 16 m = 0) (Q : zQ) (hQ : ∀ h2 F2, zKH h2 F2 J V P → yfw h F V h2 F2 V → yW1 F F2 m 1 co (ycw (bcd bk e)) → Go 50 168 [vR 9, vR 4, vR 26, vI i, vI e] [] h2 Q) : Go 50 71 [vR 9, vR 4, vR 26, vI i, vI e] [] h Q := by
  have hc := (hb.2 e he).1.2
  have l16 := hb.1.2
  have bw := c_codeOf (h := h) k hb e he
  have e6 : ¬ (e : Int) = -6 := by omega
  have c3 := c_writeCode k m hV (bcd bk e) (by omega) (F 16) (F 17) h16 (eK (fun pc ls st h => Go 50 pc ls st h Q) 141 [vR 9, vR 4, vR 26, vI i, vI e] []) (fun a s ha hs' => by
    rw [eK_n]
    have k1 := kh_hhT k a s
    have g9 : (hhT h a s)[9]? = some (oO 7 [vR 10, vR 12, vR 13, vR 14, vR 15, vR 16, vR 17, vR 18, vI (V 1)]) := kh_9 k1
    have bp := c_codeCost (h := hhT h a s) k1 hs
    have g15 : (hhT h a s)[15]? = some (aI 12 (F 15)) := by have x := kh_15 k1; exact x
    have b15 := c_layN (v := co) g15 (by omega) (by omega) m hV.2
    have k2 := ks_15 k1 (va_up (F 15) m co)
    have g9' : ((hhT h a s).set 15 (aI 12 (va_up (F 15) m co)))[9]? = some (oO 7 [vR 10, vR 12, vR 13, vR 14, vR 15, vR 16, vR 17, vR 18, vI (V 1)]) := by have x := kh_9 k2; exact x
    have g14 : ((hhT h a s).set 15 (aI 12 (va_up (F 15) m co)))[14]? = some (aI 12 (F 14)) := by have x := kh_14 k2; exact x
    have b14 := c_layN (v := 1) g14 (by omega) (by omega) m hV.2
    have k3 := ks_14 k2 (va_up (F 14) m 1)
    have c4 := hQ _ _ k3 ⟨⟨fun t ht => by
        rw [uF_out (by omega), uF_out (by omega), uF_out (by omega), uF_out (by omega)], fun _ _ => rfl⟩, fun t ht => by
        rw [zsg_n (by omega), zsg_n (by omega)]
        unfold hhT
        rw [zsg_n (by omega), zsg_n (by omega)], by
        unfold hhT
        simp only [List.length_set]⟩ ⟨⟨rfl, rfl⟩, fun u => y_up _ _ _ _, fun u => y_up _ _ _ _, fun u => ha u, fun t => by
        refine (hs' t).trans ?_
        show (if 13 * m ≤ t ∧ t < 13 * m + 4 then dg (bcd bk e) ((t : Int) - 13 * m) else F 17 t) = if 13 * m ≤ t ∧ t < 13 * m + 4 then (((ycw (bcd bk e)).getD (t - 13 * m) 0 : Nat) : Int) else F 17 t
        by_cases x : 13 * m ≤ t ∧ t < 13 * m + 4
        · rw [if_pos x, if_pos x, ycw_at _ _ (by omega)]
          exact congrArg (dg (bcd bk e)) (by omega)
        · rw [if_neg x, if_neg x]⟩
    rw [zsg_c (i := 15) (j := 14) (by omega)] at c4
    refine Go_on (fun p => p == 168) 400 ?_; simp only [Ge_s, eM_s, zct_0, zct_I, zct_P, zct_J, eX_iconst, eX_ldc2w, eX_iload, eX_lload, eX_aload, eX_istore, eX_lstore, eX_astore, eX_iinc, eX_iadd, eX_isub, eX_imul, eX_idiv, eX_irem, eX_iand, eX_ishl, eX_ishr, eX_ixor, eX_ineg, eX_dupx2, eX_pop2, eX_land, eX_lor, eX_lshl, eX_lushr, eX_lcmp, eX_i2l, eX_l2i, eX_dup, eX_dup2, eX_ifCond, eX_ificmp, eX_goto, eX_ifnonnull, eX_tableswitch, eX_invokeinterface, eX_multianewarray, eX_getstatic, eX_iaload, eX_laload, eX_baload, eX_aaload, eX_iastore, eX_bastore, eX_lastore, eX_aastore, eX_arraylength, eX_new, eX_newarray, eX_anewarray, eX_invokevirtual, eX_invokestatic, eX_invokespecial, eX_pop, eX_invokedynamic, eX_ireturn, eX_freturn, eX_lreturn, eX_return, eI_s, eJ_s, eP_s, eSI_s, eSJ_s, eSP_s, eInc_s, eAdd_s, eSub_s, eMul_s, eDiv_s, eRem_s, eAnd_s, eXor_s, eNeg_s, eIshl_s, eIshr_s, eDx2_s, ePo2_s, zan_31, zan_255, zan_1, zan_15, zan_m, eLand_s, eLor_s, eLshl_s, eLushr_s, eLcmp_s, eI2l_s, eL2i_s, eDup_s, eDup2_s, eIf_s, eIc_s, eBr_eq, eBr_ne, eBr_lt, eBr_ge, eBr_gt, eBr_le, eNn_s, eNn_n, eG3_s, eG2_s, eGf_s, eP2_s, ePf_s, eAI2_s, eAZ2_s, eAJ2_s, eAQ2_s, eAI_s, eAZ_s, eAJ_s, eAQ_s, eXI2_s, eXZ2_s, eXJ2_s, eXQ2_s, eXI_s, eXZ_s, eXJ_s, eXQ_s, eL2_s, eLn_s, eNa_i, eNa_z, eNa_j, eNq_s, eK_s, eK_n, eR2_s, eRv_s, eRi_s, eCv_s, eCs_s, eCi_s, ePop_s, eMx_s, eMn_s, eCp_s, eCp2_i, eCp2_j, eJd_1, eJd_2, eJd_3, eRI_s, eRZ_s, eRJ_s, eRV_s, zsg_s, zsg_n, zsg_c, List.set_set, Option.map_some, ne_eq, not_false_eq_true, zfit_0, zfit_1, zfit_12, zkd, ↓reduceIte, zc1_I, zc1_P, zset1, zset2, zclr, List.getElem?_cons_zero, List.getElem?_cons_succ, List.set_cons_zero, List.set_cons_succ, List.length_cons, List.length_nil, List.take_succ_cons, List.take_zero, List.drop_succ_cons, List.drop_zero, List.reverse_cons, List.reverse_nil, List.nil_append, List.cons_append, Option.toList_some, Option.toList_none, Nat.reduceAdd, Nat.reduceSub, Nat.reduceLeDiff, Nat.reduceBEq, Nat.reduceEqDiff, Int.reduceToNat, Bool.or_false, Bool.false_or, Bool.or_true, Bool.true_or, Bool.false_eq_true, if_true, if_false, ite_true, ite_false, and_true, true_and, and_self, reduceCtorEq, Int.reduceLT, Int.reduceLE, Int.reduceNeg, Int.reduceAdd, Int.reduceSub, Int.reduceMul, Nat.le_refl, or_true, true_or, or_self, Int.reduceEq, za_50, zf_37, zf_98, g9, g9', kh_4 k1, hV.1, bp, b15, b14]
    ((try unfold zr); (try unfold zix); (repeat' first | exact trivial | assumption | (with_reducible rfl) | omega | (refine And.intro ?_ ?_))))
  rw [hhT_id k] at c3
  refine Go_on (fun p => p == 168 || p == 141) 400 ?_; simp only [Ge_s, eM_s, zct_0, zct_I, zct_P, zct_J, eX_iconst, eX_ldc2w, eX_iload, eX_lload, eX_aload, eX_istore, eX_lstore, eX_astore, eX_iinc, eX_iadd, eX_isub, eX_imul, eX_idiv, eX_irem, eX_iand, eX_ishl, eX_ishr, eX_ixor, eX_ineg, eX_dupx2, eX_pop2, eX_land, eX_lor, eX_lshl, eX_lushr, eX_lcmp, eX_i2l, eX_l2i, eX_dup, eX_dup2, eX_ifCond, eX_ificmp, eX_goto, eX_ifnonnull, eX_tableswitch, eX_invokeinterface, eX_multianewarray, eX_getstatic, eX_iaload, eX_laload, eX_baload, eX_aaload, eX_iastore, eX_bastore, eX_lastore, eX_aastore, eX_arraylength, eX_new, eX_newarray, eX_anewarray, eX_invokevirtual, eX_invokestatic, eX_invokespecial, eX_pop, eX_invokedynamic, eX_ireturn, eX_freturn, eX_lreturn, eX_return, eI_s, eJ_s, eP_s, eSI_s, eSJ_s, eSP_s, eInc_s, eAdd_s, eSub_s, eMul_s, eDiv_s, eRem_s, eAnd_s, eXor_s, eNeg_s, eIshl_s, eIshr_s, eDx2_s, ePo2_s, zan_31, zan_255, zan_1, zan_15, zan_m, eLand_s, eLor_s, eLshl_s, eLushr_s, eLcmp_s, eI2l_s, eL2i_s, eDup_s, eDup2_s, eIf_s, eIc_s, eBr_eq, eBr_ne, eBr_lt, eBr_ge, eBr_gt, eBr_le, eNn_s, eNn_n, eG3_s, eG2_s, eGf_s, eP2_s, ePf_s, eAI2_s, eAZ2_s, eAJ2_s, eAQ2_s, eAI_s, eAZ_s, eAJ_s, eAQ_s, eXI2_s, eXZ2_s, eXJ2_s, eXQ2_s, eXI_s, eXZ_s, eXJ_s, eXQ_s, eL2_s, eLn_s, eNa_i, eNa_z, eNa_j, eNq_s, eK_s, eK_n, eR2_s, eRv_s, eRi_s, eCv_s, eCs_s, eCi_s, ePop_s, eMx_s, eMn_s, eCp_s, eCp2_i, eCp2_j, eJd_1, eJd_2, eJd_3, eRI_s, eRZ_s, eRJ_s, eRV_s, zsg_s, zsg_n, zsg_c, List.set_set, Option.map_some, ne_eq, not_false_eq_true, zfit_0, zfit_1, zfit_12, zkd, ↓reduceIte, zc1_I, zc1_P, zset1, zset2, zclr, List.getElem?_cons_zero, List.getElem?_cons_succ, List.set_cons_zero, List.set_cons_succ, List.length_cons, List.length_nil, List.take_succ_cons, List.take_zero, List.drop_succ_cons, List.drop_zero, List.reverse_cons, List.reverse_nil, List.nil_append, List.cons_append, Option.toList_some, Option.toList_none, Nat.reduceAdd, Nat.reduceSub, Nat.reduceLeDiff, Nat.reduceBEq, Nat.reduceEqDiff, Int.reduceToNat, Bool.or_false, Bool.false_or, Bool.or_true, Bool.true_or, Bool.false_eq_true, if_true, if_false, ite_true, ite_false, and_true, true_and, and_self, reduceCtorEq, Int.reduceLT, Int.reduceLE, Int.reduceNeg, Int.reduceAdd, Int.reduceSub, Int.reduceMul, Nat.le_refl, or_true, true_or, or_self, Int.reduceEq, za_50, zf_2, zf_52, kh_9 k, kh_4 k, kh_6 k, bw, e6]
  ((try unfold zr); (try unfold zix); (repeat' first | exact trivial | assumption | (with_reducible rfl) | omega | (refine And.intro ?_ ?_)))
end
