/-! The class: the plan -/
set_option maxRecDepth 100000 in
theorem hhR_get {h : zH} {a b c e : Nat → Int} {t : Nat} (ht : t < 27) : (hhR h a b c e)[t]? = h[t]? := by
  unfold hhR
  rw [zsg_n (by omega), zsg_n (by omega), zsg_n (by omega), zsg_n (by omega)]
set_option maxRecDepth 100000 in
theorem yv_stop (E : Nat → Int) (wo pc co : Int) (L : List yQ) (s : Nat) (hs : L.length ≤ s) : ∀ m, yv E wo pc co L (s + m) = yv E wo pc co L s := by
  intro m
  induction m with
  | zero => rfl
  | succ m ih =>
    have e : yv E wo pc co L (s + m + 1) = if s + m < L.length ∧ E (s + m + 1) ≠ -6 ∧ E (s + m + 1) ≠ wo ∧ (co + (L.getD (s + m) yq0).1 < (yv E wo pc co L (s + m)).1 ∨ (co + (L.getD (s + m) yq0).1 = (yv E wo pc co L (s + m)).1 ∧ 1 + (L.getD (s + m) yq0).2.1 ≤ (yv E wo pc co L (s + m)).2.1)) then (co + (L.getD (s + m) yq0).1, 1 + (L.getD (s + m) yq0).2.1, s + m + 1, E (s + m + 1)) else yv E wo pc co L (s + m) := rfl
    show yv E wo pc co L (s + m + 1) = _
    rw [e, if_neg (fun x => by omega)]
    exact ih
def yE (bk : yB) (ms : yF) (mf : Int) (mp : Nat) (i s : Nat) : Int := if s = mp ∧ ysub ms i s = ysub ms mf.toNat s then 16 else yfind bk (ysub ms i s) 0 bk.length
set_option maxRecDepth 100000 in
theorem yfd_r (p : Nat → Bool) : ∀ d i, yfd p i d = -6 ∨ ((i : Int) ≤ yfd p i d ∧ yfd p i d < i + d) := by
  intro d
  induction d with
  | zero => intro i; exact Or.inl rfl
  | succ d ih =>
    intro i
    have e : yfd p i (d + 1) = if p i = true then (i : Int) else yfd p (i + 1) d := rfl
    rw [e]
    split
    · exact Or.inr (by omega)
    · have := ih (i + 1)
      omega
set_option maxRecDepth 100000 in
theorem yE_r {bk : yB} (hl : bk.length ≤ 16) (ms : yF) (mf : Int) (mp i s : Nat) : -6 ≤ yE bk ms mf mp i s ∧ yE bk ms mf mp i s ≤ 16 := by
  unfold yE
  split
  · omega
  · have := yfd_r (fun e => decide (bph bk e = ysub ms i s)) bk.length 0
    unfold yfind
    omega
section
variable {h : zH} {F : Nat → Nat → Int} {J : Nat → Nat → Nat} {V : Nat → Int} {P : Nat → Nat → Option Nat} {bk : yB} {co wi ap : Int} {ms : yF}
set_option maxRecDepth 100000 in
theorem c_plan_e (k : zKH h F J V P) (hs : rs (F 5) co wi ap) (a b c e : Nat → Int) (i s : Nat) (ta : Nat) (mf : Int) (mp : Nat) (wo : Int) (hwo : zr wo) (hi : i < 12) (hi2 : i + s ≤ 12) (en : Int) (hen : -6 ≤ en ∧ en ≤ 16) (r1 : 0 ≤ a i ∧ a i ≤ 1000000) (r2 : 0 ≤ a (i + s) ∧ a (i + s) ≤ 1000000) (r3 : 0 ≤ b i ∧ b i ≤ 1000000) (r4 : 0 ≤ b (i + s) ∧ b (i + s) ≤ 1000000) (Q : zQ)
    (hN : ¬ (en ≠ -6 ∧ en ≠ wo ∧ (co + a (i + s) < a i ∨ (co + a (i + s) = a i ∧ 1 + b (i + s) ≤ b i))) → Go 33 59 [vR 26, vR 4, vR ta, vI wo, vI mf, vI mp, vI i, vI ((s : Int) + 1), vI en] [] (hhR h a b c e) Q)
    (hY : (en ≠ -6 ∧ en ≠ wo ∧ (co + a (i + s) < a i ∨ (co + a (i + s) = a i ∧ 1 + b (i + s) ≤ b i))) → Go 33 59 [vR 26, vR 4, vR ta, vI wo, vI mf, vI mp, vI i, vI ((s : Int) + 1), vI en] [] (hhR h (va_up a i (co + a (i + s))) (va_up b i (1 + b (i + s))) (va_up c i s) (va_up e i en)) Q) :
    Go 33 115 [vR 26, vR 4, vR ta, vI wo, vI mf, vI mp, vI i, vI s, vI en] [] (hhR h a b c e) Q := by
  have k0 := kh_hhR k a b c e
  have hwo' : -2147483648 ≤ wo ∧ wo < 2147483648 := hwo
  have hco := hs.2.1
  by_cases c1 : en = -6
  · have c3 := hN (fun x => x.1 c1)
    refine Go_on (fun p => p == 59) 400 ?_; simp only [Ge_s, eM_s, zct_0, zct_I, zct_P, zct_J, eX_iconst, eX_ldc2w, eX_iload, eX_lload, eX_aload, eX_istore, eX_lstore, eX_astore, eX_iinc, eX_iadd, eX_isub, eX_imul, eX_idiv, eX_irem, eX_iand, eX_ishl, eX_ishr, eX_ixor, eX_ineg, eX_dupx2, eX_pop2, eX_land, eX_lor, eX_lshl, eX_lushr, eX_lcmp, eX_i2l, eX_l2i, eX_dup, eX_dup2, eX_ifCond, eX_ificmp, eX_goto, eX_ifnonnull, eX_tableswitch, eX_invokeinterface, eX_multianewarray, eX_getstatic, eX_iaload, eX_laload, eX_baload, eX_aaload, eX_iastore, eX_bastore, eX_lastore, eX_aastore, eX_arraylength, eX_new, eX_newarray, eX_anewarray, eX_invokevirtual, eX_invokestatic, eX_invokespecial, eX_pop, eX_invokedynamic, eX_ireturn, eX_freturn, eX_lreturn, eX_return, eI_s, eJ_s, eP_s, eSI_s, eSJ_s, eSP_s, eInc_s, eAdd_s, eSub_s, eMul_s, eDiv_s, eRem_s, eAnd_s, eXor_s, eNeg_s, eIshl_s, eIshr_s, eDx2_s, ePo2_s, zan_31, zan_255, zan_1, zan_15, zan_m, eLand_s, eLor_s, eLshl_s, eLushr_s, eLcmp_s, eI2l_s, eL2i_s, eDup_s, eDup2_s, eIf_s, eIc_s, eBr_eq, eBr_ne, eBr_lt, eBr_ge, eBr_gt, eBr_le, eNn_s, eNn_n, eG3_s, eG2_s, eGf_s, eP2_s, ePf_s, eAI2_s, eAZ2_s, eAJ2_s, eAQ2_s, eAI_s, eAZ_s, eAJ_s, eAQ_s, eXI2_s, eXZ2_s, eXJ2_s, eXQ2_s, eXI_s, eXZ_s, eXJ_s, eXQ_s, eL2_s, eLn_s, eNa_i, eNa_z, eNa_j, eNq_s, eK_s, eK_n, eR2_s, eRv_s, eRi_s, eCv_s, eCs_s, eCi_s, ePop_s, eMx_s, eMn_s, eCp_s, eCp2_i, eCp2_j, eJd_1, eJd_2, eJd_3, eRI_s, eRZ_s, eRJ_s, eRV_s, zsg_s, zsg_n, zsg_c, List.set_set, Option.map_some, ne_eq, not_false_eq_true, zfit_0, zfit_1, zfit_12, zkd, ↓reduceIte, zc1_I, zc1_P, zset1, zset2, zclr, List.getElem?_cons_zero, List.getElem?_cons_succ, List.set_cons_zero, List.set_cons_succ, List.length_cons, List.length_nil, List.take_succ_cons, List.take_zero, List.drop_succ_cons, List.drop_zero, List.reverse_cons, List.reverse_nil, List.nil_append, List.cons_append, Option.toList_some, Option.toList_none, Nat.reduceAdd, Nat.reduceSub, Nat.reduceLeDiff, Nat.reduceBEq, Nat.reduceEqDiff, Int.reduceToNat, Bool.or_false, Bool.false_or, Bool.or_true, Bool.true_or, Bool.false_eq_true, if_true, if_false, ite_true, ite_false, and_true, true_and, and_self, reduceCtorEq, Int.reduceLT, Int.reduceLE, Int.reduceNeg, Int.reduceAdd, Int.reduceSub, Int.reduceMul, Nat.le_refl, or_true, true_or, or_self, Int.reduceEq, za_33, eq_true c1]
    ((try unfold zr); (try unfold zix); (repeat' first | exact trivial | assumption | (with_reducible rfl) | omega | (refine And.intro ?_ ?_)))
  · by_cases c2 : en = wo
    · have c3 := hN (fun x => x.2.1 c2)
      refine Go_on (fun p => p == 59) 400 ?_; simp only [Ge_s, eM_s, zct_0, zct_I, zct_P, zct_J, eX_iconst, eX_ldc2w, eX_iload, eX_lload, eX_aload, eX_istore, eX_lstore, eX_astore, eX_iinc, eX_iadd, eX_isub, eX_imul, eX_idiv, eX_irem, eX_iand, eX_ishl, eX_ishr, eX_ixor, eX_ineg, eX_dupx2, eX_pop2, eX_land, eX_lor, eX_lshl, eX_lushr, eX_lcmp, eX_i2l, eX_l2i, eX_dup, eX_dup2, eX_ifCond, eX_ificmp, eX_goto, eX_ifnonnull, eX_tableswitch, eX_invokeinterface, eX_multianewarray, eX_getstatic, eX_iaload, eX_laload, eX_baload, eX_aaload, eX_iastore, eX_bastore, eX_lastore, eX_aastore, eX_arraylength, eX_new, eX_newarray, eX_anewarray, eX_invokevirtual, eX_invokestatic, eX_invokespecial, eX_pop, eX_invokedynamic, eX_ireturn, eX_freturn, eX_lreturn, eX_return, eI_s, eJ_s, eP_s, eSI_s, eSJ_s, eSP_s, eInc_s, eAdd_s, eSub_s, eMul_s, eDiv_s, eRem_s, eAnd_s, eXor_s, eNeg_s, eIshl_s, eIshr_s, eDx2_s, ePo2_s, zan_31, zan_255, zan_1, zan_15, zan_m, eLand_s, eLor_s, eLshl_s, eLushr_s, eLcmp_s, eI2l_s, eL2i_s, eDup_s, eDup2_s, eIf_s, eIc_s, eBr_eq, eBr_ne, eBr_lt, eBr_ge, eBr_gt, eBr_le, eNn_s, eNn_n, eG3_s, eG2_s, eGf_s, eP2_s, ePf_s, eAI2_s, eAZ2_s, eAJ2_s, eAQ2_s, eAI_s, eAZ_s, eAJ_s, eAQ_s, eXI2_s, eXZ2_s, eXJ2_s, eXQ2_s, eXI_s, eXZ_s, eXJ_s, eXQ_s, eL2_s, eLn_s, eNa_i, eNa_z, eNa_j, eNq_s, eK_s, eK_n, eR2_s, eRv_s, eRi_s, eCv_s, eCs_s, eCi_s, ePop_s, eMx_s, eMn_s, eCp_s, eCp2_i, eCp2_j, eJd_1, eJd_2, eJd_3, eRI_s, eRZ_s, eRJ_s, eRV_s, zsg_s, zsg_n, zsg_c, List.set_set, Option.map_some, ne_eq, not_false_eq_true, zfit_0, zfit_1, zfit_12, zkd, ↓reduceIte, zc1_I, zc1_P, zset1, zset2, zclr, List.getElem?_cons_zero, List.getElem?_cons_succ, List.set_cons_zero, List.set_cons_succ, List.length_cons, List.length_nil, List.take_succ_cons, List.take_zero, List.drop_succ_cons, List.drop_zero, List.reverse_cons, List.reverse_nil, List.nil_append, List.cons_append, Option.toList_some, Option.toList_none, Nat.reduceAdd, Nat.reduceSub, Nat.reduceLeDiff, Nat.reduceBEq, Nat.reduceEqDiff, Int.reduceToNat, Bool.or_false, Bool.false_or, Bool.or_true, Bool.true_or, Bool.false_eq_true, if_true, if_false, ite_true, ite_false, and_true, true_and, and_self, reduceCtorEq, Int.reduceLT, Int.reduceLE, Int.reduceNeg, Int.reduceAdd, Int.reduceSub, Int.reduceMul, Nat.le_refl, or_true, true_or, or_self, Int.reduceEq, za_33, c1, eq_true c2]
      ((try unfold zr); (try unfold zix); (repeat' first | exact trivial | assumption | (with_reducible rfl) | omega | (refine And.intro ?_ ?_)))
    · have b1 := c_codeCost (h := hhR h a b c e) k0 hs
      have b2 := c_isNoWorse (h := hhR h a b c e) k0 i s co hi hi2 (by omega) r1 r2 r3 r4
      have b3 := c_choose k a b c e i s en co hi hi2
      have e1 : uR F a b c e 27 = a := rfl
      have e2 : uR F a b c e 28 = b := rfl
      rw [e1, e2] at b2
      by_cases c4 : co + a (i + s) < a i ∨ (co + a (i + s) = a i ∧ 1 + b (i + s) ≤ b i)
      · have c3 := hY ⟨c1, c2, c4⟩
        have e3 : ynwI (a i) (b i) (co + a (i + s)) (1 + b (i + s)) = 1 := if_pos c4
        rw [e3] at b2
        refine Go_on (fun p => p == 59) 400 ?_; simp only [Ge_s, eM_s, zct_0, zct_I, zct_P, zct_J, eX_iconst, eX_ldc2w, eX_iload, eX_lload, eX_aload, eX_istore, eX_lstore, eX_astore, eX_iinc, eX_iadd, eX_isub, eX_imul, eX_idiv, eX_irem, eX_iand, eX_ishl, eX_ishr, eX_ixor, eX_ineg, eX_dupx2, eX_pop2, eX_land, eX_lor, eX_lshl, eX_lushr, eX_lcmp, eX_i2l, eX_l2i, eX_dup, eX_dup2, eX_ifCond, eX_ificmp, eX_goto, eX_ifnonnull, eX_tableswitch, eX_invokeinterface, eX_multianewarray, eX_getstatic, eX_iaload, eX_laload, eX_baload, eX_aaload, eX_iastore, eX_bastore, eX_lastore, eX_aastore, eX_arraylength, eX_new, eX_newarray, eX_anewarray, eX_invokevirtual, eX_invokestatic, eX_invokespecial, eX_pop, eX_invokedynamic, eX_ireturn, eX_freturn, eX_lreturn, eX_return, eI_s, eJ_s, eP_s, eSI_s, eSJ_s, eSP_s, eInc_s, eAdd_s, eSub_s, eMul_s, eDiv_s, eRem_s, eAnd_s, eXor_s, eNeg_s, eIshl_s, eIshr_s, eDx2_s, ePo2_s, zan_31, zan_255, zan_1, zan_15, zan_m, eLand_s, eLor_s, eLshl_s, eLushr_s, eLcmp_s, eI2l_s, eL2i_s, eDup_s, eDup2_s, eIf_s, eIc_s, eBr_eq, eBr_ne, eBr_lt, eBr_ge, eBr_gt, eBr_le, eNn_s, eNn_n, eG3_s, eG2_s, eGf_s, eP2_s, ePf_s, eAI2_s, eAZ2_s, eAJ2_s, eAQ2_s, eAI_s, eAZ_s, eAJ_s, eAQ_s, eXI2_s, eXZ2_s, eXJ2_s, eXQ2_s, eXI_s, eXZ_s, eXJ_s, eXQ_s, eL2_s, eLn_s, eNa_i, eNa_z, eNa_j, eNq_s, eK_s, eK_n, eR2_s, eRv_s, eRi_s, eCv_s, eCs_s, eCi_s, ePop_s, eMx_s, eMn_s, eCp_s, eCp2_i, eCp2_j, eJd_1, eJd_2, eJd_3, eRI_s, eRZ_s, eRJ_s, eRV_s, zsg_s, zsg_n, zsg_c, List.set_set, Option.map_some, ne_eq, not_false_eq_true, zfit_0, zfit_1, zfit_12, zkd, ↓reduceIte, zc1_I, zc1_P, zset1, zset2, zclr, List.getElem?_cons_zero, List.getElem?_cons_succ, List.set_cons_zero, List.set_cons_succ, List.length_cons, List.length_nil, List.take_succ_cons, List.take_zero, List.drop_succ_cons, List.drop_zero, List.reverse_cons, List.reverse_nil, List.nil_append, List.cons_append, Option.toList_some, Option.toList_none, Nat.reduceAdd, Nat.reduceSub, Nat.reduceLeDiff, Nat.reduceBEq, Nat.reduceEqDiff, Int.reduceToNat, Bool.or_false, Bool.false_or, Bool.or_true, Bool.true_or, Bool.false_eq_true, if_true, if_false, ite_true, ite_false, and_true, true_and, and_self, reduceCtorEq, Int.reduceLT, Int.reduceLE, Int.reduceNeg, Int.reduceAdd, Int.reduceSub, Int.reduceMul, Nat.le_refl, or_true, true_or, or_self, Int.reduceEq, za_33, zf_37, zf_34, zf_35, c1, c2, b1, b2, b3, kh_26 k0, kh_4 k0]
        ((try unfold zr); (try unfold zix); (repeat' first | exact trivial | assumption | (with_reducible rfl) | omega | (refine And.intro ?_ ?_)))
      · have c3 := hN (fun x => c4 x.2.2)
        have e3 : ynwI (a i) (b i) (co + a (i + s)) (1 + b (i + s)) = 0 := if_neg c4
        rw [e3] at b2
        refine Go_on (fun p => p == 59) 400 ?_; simp only [Ge_s, eM_s, zct_0, zct_I, zct_P, zct_J, eX_iconst, eX_ldc2w, eX_iload, eX_lload, eX_aload, eX_istore, eX_lstore, eX_astore, eX_iinc, eX_iadd, eX_isub, eX_imul, eX_idiv, eX_irem, eX_iand, eX_ishl, eX_ishr, eX_ixor, eX_ineg, eX_dupx2, eX_pop2, eX_land, eX_lor, eX_lshl, eX_lushr, eX_lcmp, eX_i2l, eX_l2i, eX_dup, eX_dup2, eX_ifCond, eX_ificmp, eX_goto, eX_ifnonnull, eX_tableswitch, eX_invokeinterface, eX_multianewarray, eX_getstatic, eX_iaload, eX_laload, eX_baload, eX_aaload, eX_iastore, eX_bastore, eX_lastore, eX_aastore, eX_arraylength, eX_new, eX_newarray, eX_anewarray, eX_invokevirtual, eX_invokestatic, eX_invokespecial, eX_pop, eX_invokedynamic, eX_ireturn, eX_freturn, eX_lreturn, eX_return, eI_s, eJ_s, eP_s, eSI_s, eSJ_s, eSP_s, eInc_s, eAdd_s, eSub_s, eMul_s, eDiv_s, eRem_s, eAnd_s, eXor_s, eNeg_s, eIshl_s, eIshr_s, eDx2_s, ePo2_s, zan_31, zan_255, zan_1, zan_15, zan_m, eLand_s, eLor_s, eLshl_s, eLushr_s, eLcmp_s, eI2l_s, eL2i_s, eDup_s, eDup2_s, eIf_s, eIc_s, eBr_eq, eBr_ne, eBr_lt, eBr_ge, eBr_gt, eBr_le, eNn_s, eNn_n, eG3_s, eG2_s, eGf_s, eP2_s, ePf_s, eAI2_s, eAZ2_s, eAJ2_s, eAQ2_s, eAI_s, eAZ_s, eAJ_s, eAQ_s, eXI2_s, eXZ2_s, eXJ2_s, eXQ2_s, eXI_s, eXZ_s, eXJ_s, eXQ_s, eL2_s, eLn_s, eNa_i, eNa_z, eNa_j, eNq_s, eK_s, eK_n, eR2_s, eRv_s, eRi_s, eCv_s, eCs_s, eCi_s, ePop_s, eMx_s, eMn_s, eCp_s, eCp2_i, eCp2_j, eJd_1, eJd_2, eJd_3, eRI_s, eRZ_s, eRJ_s, eRV_s, zsg_s, zsg_n, zsg_c, List.set_set, Option.map_some, ne_eq, not_false_eq_true, zfit_0, zfit_1, zfit_12, zkd, ↓reduceIte, zc1_I, zc1_P, zset1, zset2, zclr, List.getElem?_cons_zero, List.getElem?_cons_succ, List.set_cons_zero, List.set_cons_succ, List.length_cons, List.length_nil, List.take_succ_cons, List.take_zero, List.drop_succ_cons, List.drop_zero, List.reverse_cons, List.reverse_nil, List.nil_append, List.cons_append, Option.toList_some, Option.toList_none, Nat.reduceAdd, Nat.reduceSub, Nat.reduceLeDiff, Nat.reduceBEq, Nat.reduceEqDiff, Int.reduceToNat, Bool.or_false, Bool.false_or, Bool.or_true, Bool.true_or, Bool.false_eq_true, if_true, if_false, ite_true, ite_false, and_true, true_and, and_self, reduceCtorEq, Int.reduceLT, Int.reduceLE, Int.reduceNeg, Int.reduceAdd, Int.reduceSub, Int.reduceMul, Nat.le_refl, or_true, true_or, or_self, Int.reduceEq, za_33, zf_37, zf_34, zf_35, c1, c2, b1, b2, kh_26 k0, kh_4 k0]
        ((try unfold zr); (try unfold zix); (repeat' first | exact trivial | assumption | (with_reducible rfl) | omega | (refine And.intro ?_ ?_)))
set_option maxRecDepth 100000 in
theorem c_plan_i (k : zKH h F J V P) (hs : rs (F 5) co wi ap) (hb : rb (V 0) (F 7) (J 8) bk) {ta tb : Nat} {l : Int} {g : Nat → Nat} (ha : h[ta]? = some (oO 8 [vR tb, vI l])) (hg : h[tb]? = some (aJ 12 g)) (hta : ta < 27 ∧ tb < 27) (hm : rm l g ms) (wo : Int) (hwo : zr wo) (mf : Int) (mp : Nat) (hmp : mp = 0 ∨ (0 ≤ mf ∧ mf + mp ≤ ms.length)) (hmp3 : mp ≤ 3) (i d : Nat) (hi : i + d + 1 = ms.length) (L : List yQ) (hL : L.length = d + 1) (hr : ∀ j, yqR d (L.getD j yq0)) (Q : zQ)
    (hQ : ∀ (a b c e : Nat → Int) (x y : zV), yRel i (d + 1) (yv (yE bk ms mf mp i) wo (ypm co wi ms i) co L 3 :: L) a b c e → Go 33 163 [vR 26, vR 4, vR ta, vI wo, vI mf, vI mp, vI i, x, y] [] (hhR h a b c e) Q) :
    ∀ (m s : Nat) (a b c e : Nat → Int) (x : zV), s + m = 3 → yRel i (d + 1) (yv (yE bk ms mf mp i) wo (ypm co wi ms i) co L s :: L) a b c e → Go 33 59 [vR 26, vR 4, vR ta, vI wo, vI mf, vI mp, vI i, vI ((s : Int) + 1), x] [] (hhR h a b c e) Q := by
  intro m
  have l12 := hm.1.2
  have hl : l = ms.length := hm.1.1
  induction m with
  | zero =>
    intro s a b c e x hs3 hR
    obtain rfl : s = 3 := by omega
    have c3 := hQ a b c e (vI 4) x hR
    refine Go_on (fun p => p == 163) 400 ?_; simp only [Ge_s, eM_s, zct_0, zct_I, zct_P, zct_J, eX_iconst, eX_ldc2w, eX_iload, eX_lload, eX_aload, eX_istore, eX_lstore, eX_astore, eX_iinc, eX_iadd, eX_isub, eX_imul, eX_idiv, eX_irem, eX_iand, eX_ishl, eX_ishr, eX_ixor, eX_ineg, eX_dupx2, eX_pop2, eX_land, eX_lor, eX_lshl, eX_lushr, eX_lcmp, eX_i2l, eX_l2i, eX_dup, eX_dup2, eX_ifCond, eX_ificmp, eX_goto, eX_ifnonnull, eX_tableswitch, eX_invokeinterface, eX_multianewarray, eX_getstatic, eX_iaload, eX_laload, eX_baload, eX_aaload, eX_iastore, eX_bastore, eX_lastore, eX_aastore, eX_arraylength, eX_new, eX_newarray, eX_anewarray, eX_invokevirtual, eX_invokestatic, eX_invokespecial, eX_pop, eX_invokedynamic, eX_ireturn, eX_freturn, eX_lreturn, eX_return, eI_s, eJ_s, eP_s, eSI_s, eSJ_s, eSP_s, eInc_s, eAdd_s, eSub_s, eMul_s, eDiv_s, eRem_s, eAnd_s, eXor_s, eNeg_s, eIshl_s, eIshr_s, eDx2_s, ePo2_s, zan_31, zan_255, zan_1, zan_15, zan_m, eLand_s, eLor_s, eLshl_s, eLushr_s, eLcmp_s, eI2l_s, eL2i_s, eDup_s, eDup2_s, eIf_s, eIc_s, eBr_eq, eBr_ne, eBr_lt, eBr_ge, eBr_gt, eBr_le, eNn_s, eNn_n, eG3_s, eG2_s, eGf_s, eP2_s, ePf_s, eAI2_s, eAZ2_s, eAJ2_s, eAQ2_s, eAI_s, eAZ_s, eAJ_s, eAQ_s, eXI2_s, eXZ2_s, eXJ2_s, eXQ2_s, eXI_s, eXZ_s, eXJ_s, eXQ_s, eL2_s, eLn_s, eNa_i, eNa_z, eNa_j, eNq_s, eK_s, eK_n, eR2_s, eRv_s, eRi_s, eCv_s, eCs_s, eCi_s, ePop_s, eMx_s, eMn_s, eCp_s, eCp2_i, eCp2_j, eJd_1, eJd_2, eJd_3, eRI_s, eRZ_s, eRJ_s, eRV_s, zsg_s, zsg_n, zsg_c, List.set_set, Option.map_some, ne_eq, not_false_eq_true, zfit_0, zfit_1, zfit_12, zkd, ↓reduceIte, zc1_I, zc1_P, zset1, zset2, zclr, List.getElem?_cons_zero, List.getElem?_cons_succ, List.set_cons_zero, List.set_cons_succ, List.length_cons, List.length_nil, List.take_succ_cons, List.take_zero, List.drop_succ_cons, List.drop_zero, List.reverse_cons, List.reverse_nil, List.nil_append, List.cons_append, Option.toList_some, Option.toList_none, Nat.reduceAdd, Nat.reduceSub, Nat.reduceLeDiff, Nat.reduceBEq, Nat.reduceEqDiff, Int.reduceToNat, Bool.or_false, Bool.false_or, Bool.or_true, Bool.true_or, Bool.false_eq_true, if_true, if_false, ite_true, ite_false, and_true, true_and, and_self, reduceCtorEq, Int.reduceLT, Int.reduceLE, Int.reduceNeg, Int.reduceAdd, Int.reduceSub, Int.reduceMul, Nat.le_refl, or_true, true_or, or_self, Int.reduceEq, za_33]
    ((try unfold zr); (try unfold zix); (repeat' first | exact trivial | assumption | (with_reducible rfl) | omega | (refine And.intro ?_ ?_)))
  | succ m ih =>
    intro s a b c e x hs3 hR
    have k0 := kh_hhR k a b c e
    have e1 : ¬ (3 : Int) < (s : Int) + 1 := by omega
    have ha' : (hhR h a b c e)[ta]? = some (oO 8 [vR tb, vI l]) := by rw [hhR_get hta.1]; exact ha
    have hg' : (hhR h a b c e)[tb]? = some (aJ 12 g) := by rw [hhR_get hta.2]; exact hg
    by_cases c1 : (ms.length : Int) < (i : Int) + ((s : Int) + 1)
    · have e2 := yv_stop (yE bk ms mf mp i) wo (ypm co wi ms i) co L s (by omega) (m + 1)
      rw [hs3] at e2
      have c3 := hQ a b c e (vI ((s : Int) + 1)) x (by rw [e2]; exact hR)
      refine Go_on (fun p => p == 163) 400 ?_; simp only [Ge_s, eM_s, zct_0, zct_I, zct_P, zct_J, eX_iconst, eX_ldc2w, eX_iload, eX_lload, eX_aload, eX_istore, eX_lstore, eX_astore, eX_iinc, eX_iadd, eX_isub, eX_imul, eX_idiv, eX_irem, eX_iand, eX_ishl, eX_ishr, eX_ixor, eX_ineg, eX_dupx2, eX_pop2, eX_land, eX_lor, eX_lshl, eX_lushr, eX_lcmp, eX_i2l, eX_l2i, eX_dup, eX_dup2, eX_ifCond, eX_ificmp, eX_goto, eX_ifnonnull, eX_tableswitch, eX_invokeinterface, eX_multianewarray, eX_getstatic, eX_iaload, eX_laload, eX_baload, eX_aaload, eX_iastore, eX_bastore, eX_lastore, eX_aastore, eX_arraylength, eX_new, eX_newarray, eX_anewarray, eX_invokevirtual, eX_invokestatic, eX_invokespecial, eX_pop, eX_invokedynamic, eX_ireturn, eX_freturn, eX_lreturn, eX_return, eI_s, eJ_s, eP_s, eSI_s, eSJ_s, eSP_s, eInc_s, eAdd_s, eSub_s, eMul_s, eDiv_s, eRem_s, eAnd_s, eXor_s, eNeg_s, eIshl_s, eIshr_s, eDx2_s, ePo2_s, zan_31, zan_255, zan_1, zan_15, zan_m, eLand_s, eLor_s, eLshl_s, eLushr_s, eLcmp_s, eI2l_s, eL2i_s, eDup_s, eDup2_s, eIf_s, eIc_s, eBr_eq, eBr_ne, eBr_lt, eBr_ge, eBr_gt, eBr_le, eNn_s, eNn_n, eG3_s, eG2_s, eGf_s, eP2_s, ePf_s, eAI2_s, eAZ2_s, eAJ2_s, eAQ2_s, eAI_s, eAZ_s, eAJ_s, eAQ_s, eXI2_s, eXZ2_s, eXJ2_s, eXQ2_s, eXI_s, eXZ_s, eXJ_s, eXQ_s, eL2_s, eLn_s, eNa_i, eNa_z, eNa_j, eNq_s, eK_s, eK_n, eR2_s, eRv_s, eRi_s, eCv_s, eCs_s, eCi_s, ePop_s, eMx_s, eMn_s, eCp_s, eCp2_i, eCp2_j, eJd_1, eJd_2, eJd_3, eRI_s, eRZ_s, eRJ_s, eRV_s, zsg_s, zsg_n, zsg_c, List.set_set, Option.map_some, ne_eq, not_false_eq_true, zfit_0, zfit_1, zfit_12, zkd, ↓reduceIte, zc1_I, zc1_P, zset1, zset2, zclr, List.getElem?_cons_zero, List.getElem?_cons_succ, List.set_cons_zero, List.set_cons_succ, List.length_cons, List.length_nil, List.take_succ_cons, List.take_zero, List.drop_succ_cons, List.drop_zero, List.reverse_cons, List.reverse_nil, List.nil_append, List.cons_append, Option.toList_some, Option.toList_none, Nat.reduceAdd, Nat.reduceSub, Nat.reduceLeDiff, Nat.reduceBEq, Nat.reduceEqDiff, Int.reduceToNat, Bool.or_false, Bool.false_or, Bool.or_true, Bool.true_or, Bool.false_eq_true, if_true, if_false, ite_true, ite_false, and_true, true_and, and_self, reduceCtorEq, Int.reduceLT, Int.reduceLE, Int.reduceNeg, Int.reduceAdd, Int.reduceSub, Int.reduceMul, Nat.le_refl, or_true, true_or, or_self, Int.reduceEq, za_33, e1, ha', hl, c1]
      ((try unfold zr); (try unfold zix); (repeat' first | exact trivial | assumption | (with_reducible rfl) | omega | (refine And.intro ?_ ?_)))
    · have hq0 := yv_r (E := yE bk ms mf mp i) (wo := wo) (L := L) (show 0 ≤ ypm co wi ms i ∧ ypm co wi ms i ≤ 1300 by
        have := ypc_r hs.2.1 hs.2.2.1 (rm_w hm i).2
        unfold ypm
        omega) (show 0 ≤ co ∧ co ≤ 1300 by have := hs.2.1; omega) hr s
      have hq1 := hr s
      have g0 := hR 0 (by omega)
      have g1 := hR (s + 1) (by omega)
      rw [Nat.add_zero] at g0
      have u0 : (yv (yE bk ms mf mp i) wo (ypm co wi ms i) co L s :: L).getD 0 yq0 = yv (yE bk ms mf mp i) wo (ypm co wi ms i) co L s := rfl
      have u1 : (yv (yE bk ms mf mp i) wo (ypm co wi ms i) co L s :: L).getD (s + 1) yq0 = L.getD s yq0 := rfl
      rw [u0] at g0
      rw [u1] at g1
      unfold yqR at hq0 hq1
      have e3 : yv (yE bk ms mf mp i) wo (ypm co wi ms i) co L (s + 1) = if s < L.length ∧ yE bk ms mf mp i (s + 1) ≠ -6 ∧ yE bk ms mf mp i (s + 1) ≠ wo ∧ (co + (L.getD s yq0).1 < (yv (yE bk ms mf mp i) wo (ypm co wi ms i) co L s).1 ∨ (co + (L.getD s yq0).1 = (yv (yE bk ms mf mp i) wo (ypm co wi ms i) co L s).1 ∧ 1 + (L.getD s yq0).2.1 ≤ (yv (yE bk ms mf mp i) wo (ypm co wi ms i) co L s).2.1)) then (co + (L.getD s yq0).1, 1 + (L.getD s yq0).2.1, s + 1, yE bk ms mf mp i (s + 1)) else yv (yE bk ms mf mp i) wo (ypm co wi ms i) co L s := rfl
      have hE := yE_r hb.1.2 ms mf mp i (s + 1)
      have step : Go 33 115 [vR 26, vR 4, vR ta, vI wo, vI mf, vI mp, vI i, vI ((s + 1 : Nat) : Int), vI (yE bk ms mf mp i (s + 1))] [] (hhR h a b c e) Q := by
        refine c_plan_e k hs a b c e i (s + 1) ta mf mp wo hwo (by omega) (by omega) _ hE (by omega) (by omega) (by omega) (by omega) Q (fun hn => ?_) (fun hy => ?_)
        · refine ih (s + 1) a b c e _ (by omega) ?_
          rw [e3, if_neg (fun x => hn ?_)]
          · exact hR
          · rw [g0.1.1, g0.1.2, g1.1.1, g1.1.2]
            exact x.2
        · refine ih (s + 1) _ _ _ _ _ (by omega) ?_
          rw [g0.1.1, g0.1.2, g1.1.1, g1.1.2] at hy
          rw [e3, if_pos ⟨by omega, hy⟩]
          have := yRel_up (yRel_tl hR) (co + (L.getD s yq0).1, 1 + (L.getD s yq0).2.1, s + 1, yE bk ms mf mp i (s + 1))
          rw [g1.1.1, g1.1.2]
          exact this
      have b1 := c_find (h := hhR h a b c e) k0 hb ha' hg' hm i (s + 1) (by omega) (by omega)
      have ec : ((s + 1 : Nat) : Int) = (s : Int) + 1 := by omega
      rw [ec] at b1 step
      by_cases c4 : s + 1 = mp
      · have c5 : (s : Int) + 1 = mp := by omega
        rcases hmp with hmp | hmp
        · omega
        · have e9 : ((mf.toNat : Nat) : Int) = mf := by omega
          have b2 := c_hasLike (h := hhR h a b c e) ha' hg' hm i mf.toNat (s + 1) (by omega) (by omega) (by omega)
          rw [e9, ec] at b2
          by_cases c6 : ysub ms i (s + 1) = ysub ms mf.toNat (s + 1)
          · have e5 : yE bk ms mf mp i (s + 1) = 16 := if_pos ⟨c4, c6⟩
            have e6 : yeq (ysub ms i (s + 1)) (ysub ms mf.toNat (s + 1)) = 1 := if_pos c6
            rw [e5] at step
            rw [e6] at b2
            refine Go_on (fun p => p == 115) 400 ?_; simp only [Ge_s, eM_s, zct_0, zct_I, zct_P, zct_J, eX_iconst, eX_ldc2w, eX_iload, eX_lload, eX_aload, eX_istore, eX_lstore, eX_astore, eX_iinc, eX_iadd, eX_isub, eX_imul, eX_idiv, eX_irem, eX_iand, eX_ishl, eX_ishr, eX_ixor, eX_ineg, eX_dupx2, eX_pop2, eX_land, eX_lor, eX_lshl, eX_lushr, eX_lcmp, eX_i2l, eX_l2i, eX_dup, eX_dup2, eX_ifCond, eX_ificmp, eX_goto, eX_ifnonnull, eX_tableswitch, eX_invokeinterface, eX_multianewarray, eX_getstatic, eX_iaload, eX_laload, eX_baload, eX_aaload, eX_iastore, eX_bastore, eX_lastore, eX_aastore, eX_arraylength, eX_new, eX_newarray, eX_anewarray, eX_invokevirtual, eX_invokestatic, eX_invokespecial, eX_pop, eX_invokedynamic, eX_ireturn, eX_freturn, eX_lreturn, eX_return, eI_s, eJ_s, eP_s, eSI_s, eSJ_s, eSP_s, eInc_s, eAdd_s, eSub_s, eMul_s, eDiv_s, eRem_s, eAnd_s, eXor_s, eNeg_s, eIshl_s, eIshr_s, eDx2_s, ePo2_s, zan_31, zan_255, zan_1, zan_15, zan_m, eLand_s, eLor_s, eLshl_s, eLushr_s, eLcmp_s, eI2l_s, eL2i_s, eDup_s, eDup2_s, eIf_s, eIc_s, eBr_eq, eBr_ne, eBr_lt, eBr_ge, eBr_gt, eBr_le, eNn_s, eNn_n, eG3_s, eG2_s, eGf_s, eP2_s, ePf_s, eAI2_s, eAZ2_s, eAJ2_s, eAQ2_s, eAI_s, eAZ_s, eAJ_s, eAQ_s, eXI2_s, eXZ2_s, eXJ2_s, eXQ2_s, eXI_s, eXZ_s, eXJ_s, eXQ_s, eL2_s, eLn_s, eNa_i, eNa_z, eNa_j, eNq_s, eK_s, eK_n, eR2_s, eRv_s, eRi_s, eCv_s, eCs_s, eCi_s, ePop_s, eMx_s, eMn_s, eCp_s, eCp2_i, eCp2_j, eJd_1, eJd_2, eJd_3, eRI_s, eRZ_s, eRJ_s, eRV_s, zsg_s, zsg_n, zsg_c, List.set_set, Option.map_some, ne_eq, not_false_eq_true, zfit_0, zfit_1, zfit_12, zkd, ↓reduceIte, zc1_I, zc1_P, zset1, zset2, zclr, List.getElem?_cons_zero, List.getElem?_cons_succ, List.set_cons_zero, List.set_cons_succ, List.length_cons, List.length_nil, List.take_succ_cons, List.take_zero, List.drop_succ_cons, List.drop_zero, List.reverse_cons, List.reverse_nil, List.nil_append, List.cons_append, Option.toList_some, Option.toList_none, Nat.reduceAdd, Nat.reduceSub, Nat.reduceLeDiff, Nat.reduceBEq, Nat.reduceEqDiff, Int.reduceToNat, Bool.or_false, Bool.false_or, Bool.or_true, Bool.true_or, Bool.false_eq_true, if_true, if_false, ite_true, ite_false, and_true, true_and, and_self, reduceCtorEq, Int.reduceLT, Int.reduceLE, Int.reduceNeg, Int.reduceAdd, Int.reduceSub, Int.reduceMul, Nat.le_refl, or_true, true_or, or_self, Int.reduceEq, za_33, zf_8, zf_59, e1, ha', hl, c1, kh_4 k0, kh_6 k0, b1, b2, eq_true c5]
            ((try unfold zr); (try unfold zix); (repeat' first | exact trivial | assumption | (with_reducible rfl) | omega | (refine And.intro ?_ ?_)))
          · have e5 : yE bk ms mf mp i (s + 1) = yfind bk (ysub ms i (s + 1)) 0 bk.length := if_neg (fun x => c6 x.2)
            have e6 : yeq (ysub ms i (s + 1)) (ysub ms mf.toNat (s + 1)) = 0 := if_neg c6
            rw [e5] at step
            rw [e6] at b2
            refine Go_on (fun p => p == 115) 400 ?_; simp only [Ge_s, eM_s, zct_0, zct_I, zct_P, zct_J, eX_iconst, eX_ldc2w, eX_iload, eX_lload, eX_aload, eX_istore, eX_lstore, eX_astore, eX_iinc, eX_iadd, eX_isub, eX_imul, eX_idiv, eX_irem, eX_iand, eX_ishl, eX_ishr, eX_ixor, eX_ineg, eX_dupx2, eX_pop2, eX_land, eX_lor, eX_lshl, eX_lushr, eX_lcmp, eX_i2l, eX_l2i, eX_dup, eX_dup2, eX_ifCond, eX_ificmp, eX_goto, eX_ifnonnull, eX_tableswitch, eX_invokeinterface, eX_multianewarray, eX_getstatic, eX_iaload, eX_laload, eX_baload, eX_aaload, eX_iastore, eX_bastore, eX_lastore, eX_aastore, eX_arraylength, eX_new, eX_newarray, eX_anewarray, eX_invokevirtual, eX_invokestatic, eX_invokespecial, eX_pop, eX_invokedynamic, eX_ireturn, eX_freturn, eX_lreturn, eX_return, eI_s, eJ_s, eP_s, eSI_s, eSJ_s, eSP_s, eInc_s, eAdd_s, eSub_s, eMul_s, eDiv_s, eRem_s, eAnd_s, eXor_s, eNeg_s, eIshl_s, eIshr_s, eDx2_s, ePo2_s, zan_31, zan_255, zan_1, zan_15, zan_m, eLand_s, eLor_s, eLshl_s, eLushr_s, eLcmp_s, eI2l_s, eL2i_s, eDup_s, eDup2_s, eIf_s, eIc_s, eBr_eq, eBr_ne, eBr_lt, eBr_ge, eBr_gt, eBr_le, eNn_s, eNn_n, eG3_s, eG2_s, eGf_s, eP2_s, ePf_s, eAI2_s, eAZ2_s, eAJ2_s, eAQ2_s, eAI_s, eAZ_s, eAJ_s, eAQ_s, eXI2_s, eXZ2_s, eXJ2_s, eXQ2_s, eXI_s, eXZ_s, eXJ_s, eXQ_s, eL2_s, eLn_s, eNa_i, eNa_z, eNa_j, eNq_s, eK_s, eK_n, eR2_s, eRv_s, eRi_s, eCv_s, eCs_s, eCi_s, ePop_s, eMx_s, eMn_s, eCp_s, eCp2_i, eCp2_j, eJd_1, eJd_2, eJd_3, eRI_s, eRZ_s, eRJ_s, eRV_s, zsg_s, zsg_n, zsg_c, List.set_set, Option.map_some, ne_eq, not_false_eq_true, zfit_0, zfit_1, zfit_12, zkd, ↓reduceIte, zc1_I, zc1_P, zset1, zset2, zclr, List.getElem?_cons_zero, List.getElem?_cons_succ, List.set_cons_zero, List.set_cons_succ, List.length_cons, List.length_nil, List.take_succ_cons, List.take_zero, List.drop_succ_cons, List.drop_zero, List.reverse_cons, List.reverse_nil, List.nil_append, List.cons_append, Option.toList_some, Option.toList_none, Nat.reduceAdd, Nat.reduceSub, Nat.reduceLeDiff, Nat.reduceBEq, Nat.reduceEqDiff, Int.reduceToNat, Bool.or_false, Bool.false_or, Bool.or_true, Bool.true_or, Bool.false_eq_true, if_true, if_false, ite_true, ite_false, and_true, true_and, and_self, reduceCtorEq, Int.reduceLT, Int.reduceLE, Int.reduceNeg, Int.reduceAdd, Int.reduceSub, Int.reduceMul, Nat.le_refl, or_true, true_or, or_self, Int.reduceEq, za_33, zf_8, zf_59, e1, ha', hl, c1, kh_4 k0, kh_6 k0, b1, b2, eq_true c5]
            ((try unfold zr); (try unfold zix); (repeat' first | exact trivial | assumption | (with_reducible rfl) | omega | (refine And.intro ?_ ?_)))
      · have c5 : ¬ (s : Int) + 1 = mp := by omega
        have e5 : yE bk ms mf mp i (s + 1) = yfind bk (ysub ms i (s + 1)) 0 bk.length := if_neg (fun x => c4 x.1)
        rw [e5] at step
        refine Go_on (fun p => p == 115) 400 ?_; simp only [Ge_s, eM_s, zct_0, zct_I, zct_P, zct_J, eX_iconst, eX_ldc2w, eX_iload, eX_lload, eX_aload, eX_istore, eX_lstore, eX_astore, eX_iinc, eX_iadd, eX_isub, eX_imul, eX_idiv, eX_irem, eX_iand, eX_ishl, eX_ishr, eX_ixor, eX_ineg, eX_dupx2, eX_pop2, eX_land, eX_lor, eX_lshl, eX_lushr, eX_lcmp, eX_i2l, eX_l2i, eX_dup, eX_dup2, eX_ifCond, eX_ificmp, eX_goto, eX_ifnonnull, eX_tableswitch, eX_invokeinterface, eX_multianewarray, eX_getstatic, eX_iaload, eX_laload, eX_baload, eX_aaload, eX_iastore, eX_bastore, eX_lastore, eX_aastore, eX_arraylength, eX_new, eX_newarray, eX_anewarray, eX_invokevirtual, eX_invokestatic, eX_invokespecial, eX_pop, eX_invokedynamic, eX_ireturn, eX_freturn, eX_lreturn, eX_return, eI_s, eJ_s, eP_s, eSI_s, eSJ_s, eSP_s, eInc_s, eAdd_s, eSub_s, eMul_s, eDiv_s, eRem_s, eAnd_s, eXor_s, eNeg_s, eIshl_s, eIshr_s, eDx2_s, ePo2_s, zan_31, zan_255, zan_1, zan_15, zan_m, eLand_s, eLor_s, eLshl_s, eLushr_s, eLcmp_s, eI2l_s, eL2i_s, eDup_s, eDup2_s, eIf_s, eIc_s, eBr_eq, eBr_ne, eBr_lt, eBr_ge, eBr_gt, eBr_le, eNn_s, eNn_n, eG3_s, eG2_s, eGf_s, eP2_s, ePf_s, eAI2_s, eAZ2_s, eAJ2_s, eAQ2_s, eAI_s, eAZ_s, eAJ_s, eAQ_s, eXI2_s, eXZ2_s, eXJ2_s, eXQ2_s, eXI_s, eXZ_s, eXJ_s, eXQ_s, eL2_s, eLn_s, eNa_i, eNa_z, eNa_j, eNq_s, eK_s, eK_n, eR2_s, eRv_s, eRi_s, eCv_s, eCs_s, eCi_s, ePop_s, eMx_s, eMn_s, eCp_s, eCp2_i, eCp2_j, eJd_1, eJd_2, eJd_3, eRI_s, eRZ_s, eRJ_s, eRV_s, zsg_s, zsg_n, zsg_c, List.set_set, Option.map_some, ne_eq, not_false_eq_true, zfit_0, zfit_1, zfit_12, zkd, ↓reduceIte, zc1_I, zc1_P, zset1, zset2, zclr, List.getElem?_cons_zero, List.getElem?_cons_succ, List.set_cons_zero, List.set_cons_succ, List.length_cons, List.length_nil, List.take_succ_cons, List.take_zero, List.drop_succ_cons, List.drop_zero, List.reverse_cons, List.reverse_nil, List.nil_append, List.cons_append, Option.toList_some, Option.toList_none, Nat.reduceAdd, Nat.reduceSub, Nat.reduceLeDiff, Nat.reduceBEq, Nat.reduceEqDiff, Int.reduceToNat, Bool.or_false, Bool.false_or, Bool.or_true, Bool.true_or, Bool.false_eq_true, if_true, if_false, ite_true, ite_false, and_true, true_and, and_self, reduceCtorEq, Int.reduceLT, Int.reduceLE, Int.reduceNeg, Int.reduceAdd, Int.reduceSub, Int.reduceMul, Nat.le_refl, or_true, true_or, or_self, Int.reduceEq, za_33, zf_8, zf_59, e1, ha', hl, c1, kh_4 k0, kh_6 k0, b1, c5]
        ((try unfold zr); (try unfold zix); (repeat' first | exact trivial | assumption | (with_reducible rfl) | omega | (refine And.intro ?_ ?_)))
set_option maxRecDepth 100000 in
theorem c_plan_o (k : zKH h F J V P) (hs : rs (F 5) co wi ap) (hb : rb (V 0) (F 7) (J 8) bk) {ta tb : Nat} {l : Int} {g : Nat → Nat} (ha : h[ta]? = some (oO 8 [vR tb, vI l])) (hg : h[tb]? = some (aJ 12 g)) (hta : ta < 27 ∧ tb < 27) (hm : rm l g ms) (wo : Int) (hwo : zr wo) (mf : Int) (mp : Nat) (hmp : mp = 0 ∨ (0 ≤ mf ∧ mf + mp ≤ ms.length)) (hmp3 : mp ≤ 3) (Q : zQ)
    (hQ : ∀ (a b c e : Nat → Int), yRel 0 ms.length (yD (yE bk ms mf mp) wo (ypm co wi ms) co ms.length ms.length) a b c e → Q (some (vI ((yD (yE bk ms mf mp) wo (ypm co wi ms) co ms.length ms.length).getD 0 yq0).1)) (hhR h a b c e)) :
    ∀ (m d : Nat) (z : Int) (a b c e : Nat → Int) (x y : zV), d + m = ms.length → z = (ms.length : Int) - 1 - d → yRel m d (yD (yE bk ms mf mp) wo (ypm co wi ms) co ms.length d) a b c e → Go 33 32 [vR 26, vR 4, vR ta, vI wo, vI mf, vI mp, vI z, x, y] [] (hhR h a b c e) Q := by
  intro m
  have l12 := hm.1.2
  have hl : l = ms.length := hm.1.1
  have hco := hs.2.1
  have hpc : ∀ i, 0 ≤ ypm co wi ms i ∧ ypm co wi ms i ≤ 1300 := fun i => by
    have := ypc_r hs.2.1 hs.2.2.1 (rm_w hm i).2
    unfold ypm
    omega
  induction m with
  | zero =>
    intro d z a b c e x y hd hz hR
    obtain rfl : d = ms.length := by omega
    have e1 : z < 0 := by omega
    have k0 := kh_hhR k a b c e
    have b1 := c_at (h := hhR h a b c e) (i := 0) (kh_27 k0) (by omega) (by unfold zr; omega)
    have e2 : atI 13 (uR F a b c e 27) 0 = a 0 := by rw [atI_in (by omega)]; rfl
    have g0 := (hR 0 (by omega)).1.1
    rw [Nat.add_zero] at g0
    rw [e2, g0] at b1
    have c3 := hQ a b c e hR
    refine Go_on (fun _ => false) 400 ?_; simp only [Ge_s, eM_s, zct_0, zct_I, zct_P, zct_J, eX_iconst, eX_ldc2w, eX_iload, eX_lload, eX_aload, eX_istore, eX_lstore, eX_astore, eX_iinc, eX_iadd, eX_isub, eX_imul, eX_idiv, eX_irem, eX_iand, eX_ishl, eX_ishr, eX_ixor, eX_ineg, eX_dupx2, eX_pop2, eX_land, eX_lor, eX_lshl, eX_lushr, eX_lcmp, eX_i2l, eX_l2i, eX_dup, eX_dup2, eX_ifCond, eX_ificmp, eX_goto, eX_ifnonnull, eX_tableswitch, eX_invokeinterface, eX_multianewarray, eX_getstatic, eX_iaload, eX_laload, eX_baload, eX_aaload, eX_iastore, eX_bastore, eX_lastore, eX_aastore, eX_arraylength, eX_new, eX_newarray, eX_anewarray, eX_invokevirtual, eX_invokestatic, eX_invokespecial, eX_pop, eX_invokedynamic, eX_ireturn, eX_freturn, eX_lreturn, eX_return, eI_s, eJ_s, eP_s, eSI_s, eSJ_s, eSP_s, eInc_s, eAdd_s, eSub_s, eMul_s, eDiv_s, eRem_s, eAnd_s, eXor_s, eNeg_s, eIshl_s, eIshr_s, eDx2_s, ePo2_s, zan_31, zan_255, zan_1, zan_15, zan_m, eLand_s, eLor_s, eLshl_s, eLushr_s, eLcmp_s, eI2l_s, eL2i_s, eDup_s, eDup2_s, eIf_s, eIc_s, eBr_eq, eBr_ne, eBr_lt, eBr_ge, eBr_gt, eBr_le, eNn_s, eNn_n, eG3_s, eG2_s, eGf_s, eP2_s, ePf_s, eAI2_s, eAZ2_s, eAJ2_s, eAQ2_s, eAI_s, eAZ_s, eAJ_s, eAQ_s, eXI2_s, eXZ2_s, eXJ2_s, eXQ2_s, eXI_s, eXZ_s, eXJ_s, eXQ_s, eL2_s, eLn_s, eNa_i, eNa_z, eNa_j, eNq_s, eK_s, eK_n, eR2_s, eRv_s, eRi_s, eCv_s, eCs_s, eCi_s, ePop_s, eMx_s, eMn_s, eCp_s, eCp2_i, eCp2_j, eJd_1, eJd_2, eJd_3, eRI_s, eRZ_s, eRJ_s, eRV_s, zsg_s, zsg_n, zsg_c, List.set_set, Option.map_some, ne_eq, not_false_eq_true, zfit_0, zfit_1, zfit_12, zkd, ↓reduceIte, zc1_I, zc1_P, zset1, zset2, zclr, List.getElem?_cons_zero, List.getElem?_cons_succ, List.set_cons_zero, List.set_cons_succ, List.length_cons, List.length_nil, List.take_succ_cons, List.take_zero, List.drop_succ_cons, List.drop_zero, List.reverse_cons, List.reverse_nil, List.nil_append, List.cons_append, Option.toList_some, Option.toList_none, Nat.reduceAdd, Nat.reduceSub, Nat.reduceLeDiff, Nat.reduceBEq, Nat.reduceEqDiff, Int.reduceToNat, Bool.or_false, Bool.false_or, Bool.or_true, Bool.true_or, Bool.false_eq_true, if_true, if_false, ite_true, ite_false, and_true, true_and, and_self, reduceCtorEq, Int.reduceLT, Int.reduceLE, Int.reduceNeg, Int.reduceAdd, Int.reduceSub, Int.reduceMul, Nat.le_refl, or_true, true_or, or_self, Int.reduceEq, za_33, zf_96, e1, b1, kh_26 k0]
    ((try unfold zr); (try unfold zix); (repeat' first | exact trivial | assumption | (with_reducible rfl) | omega | (refine And.intro ?_ ?_)))
  | succ m ih =>
    intro d z a b c e x y hd hz hR
    obtain ⟨i, rfl⟩ : ∃ i : Nat, z = i := ⟨z.toNat, by omega⟩
    obtain rfl : i = m := by omega
    have e1 : ¬ (i : Int) < 0 := by omega
    have k0 := kh_hhR k a b c e
    have ha' : (hhR h a b c e)[ta]? = some (oO 8 [vR tb, vI l]) := by rw [hhR_get hta.1]; exact ha
    have hg' : (hhR h a b c e)[tb]? = some (aJ 12 g) := by rw [hhR_get hta.2]; exact hg
    have b1 := c_wordAt ha' hg' hm (i : Int) (by unfold zr; omega)
    rw [ywd_nat] at b1
    have w1 := rm_w hm i
    have b2 := c_plainCost (h := hhR h a b c e) k0 hs w1.1 w1.2
    have b3 := c_choose k a b c e i 1 (-6) (ypc co wi (ms.getD i []).length) (by omega) (by omega)
    have hD := yD_len (yE bk ms mf mp) wo (ypm co wi ms) co ms.length d
    have hr := yD_r (E := yE bk ms mf mp) (wo := wo) (n := ms.length) hpc (show 0 ≤ co ∧ co ≤ 1300 by omega) d
    have e5 : ms.length - (d + 1) = i := by omega
    have hQ' : ∀ (a b c e : Nat → Int) (x y : zV), yRel i (d + 1) (yv (yE bk ms mf mp i) wo (ypm co wi ms i) co (yD (yE bk ms mf mp) wo (ypm co wi ms) co ms.length d) 3 :: yD (yE bk ms mf mp) wo (ypm co wi ms) co ms.length d) a b c e → Go 33 163 [vR 26, vR 4, vR ta, vI wo, vI mf, vI mp, vI i, x, y] [] (hhR h a b c e) Q := by
      intro a b c e x y hR'
      have c3 := ih (d + 1) ((i : Int) - 1) a b c e x y (by omega) (by omega) (by
        unfold yD
        rw [e5]
        exact hR')
      have e6 : (i : Int) + -1 = (i : Int) - 1 := rfl
      refine Go_on (fun p => p == 32) 400 ?_; simp only [Ge_s, eM_s, zct_0, zct_I, zct_P, zct_J, eX_iconst, eX_ldc2w, eX_iload, eX_lload, eX_aload, eX_istore, eX_lstore, eX_astore, eX_iinc, eX_iadd, eX_isub, eX_imul, eX_idiv, eX_irem, eX_iand, eX_ishl, eX_ishr, eX_ixor, eX_ineg, eX_dupx2, eX_pop2, eX_land, eX_lor, eX_lshl, eX_lushr, eX_lcmp, eX_i2l, eX_l2i, eX_dup, eX_dup2, eX_ifCond, eX_ificmp, eX_goto, eX_ifnonnull, eX_tableswitch, eX_invokeinterface, eX_multianewarray, eX_getstatic, eX_iaload, eX_laload, eX_baload, eX_aaload, eX_iastore, eX_bastore, eX_lastore, eX_aastore, eX_arraylength, eX_new, eX_newarray, eX_anewarray, eX_invokevirtual, eX_invokestatic, eX_invokespecial, eX_pop, eX_invokedynamic, eX_ireturn, eX_freturn, eX_lreturn, eX_return, eI_s, eJ_s, eP_s, eSI_s, eSJ_s, eSP_s, eInc_s, eAdd_s, eSub_s, eMul_s, eDiv_s, eRem_s, eAnd_s, eXor_s, eNeg_s, eIshl_s, eIshr_s, eDx2_s, ePo2_s, zan_31, zan_255, zan_1, zan_15, zan_m, eLand_s, eLor_s, eLshl_s, eLushr_s, eLcmp_s, eI2l_s, eL2i_s, eDup_s, eDup2_s, eIf_s, eIc_s, eBr_eq, eBr_ne, eBr_lt, eBr_ge, eBr_gt, eBr_le, eNn_s, eNn_n, eG3_s, eG2_s, eGf_s, eP2_s, ePf_s, eAI2_s, eAZ2_s, eAJ2_s, eAQ2_s, eAI_s, eAZ_s, eAJ_s, eAQ_s, eXI2_s, eXZ2_s, eXJ2_s, eXQ2_s, eXI_s, eXZ_s, eXJ_s, eXQ_s, eL2_s, eLn_s, eNa_i, eNa_z, eNa_j, eNq_s, eK_s, eK_n, eR2_s, eRv_s, eRi_s, eCv_s, eCs_s, eCi_s, ePop_s, eMx_s, eMn_s, eCp_s, eCp2_i, eCp2_j, eJd_1, eJd_2, eJd_3, eRI_s, eRZ_s, eRJ_s, eRV_s, zsg_s, zsg_n, zsg_c, List.set_set, Option.map_some, ne_eq, not_false_eq_true, zfit_0, zfit_1, zfit_12, zkd, ↓reduceIte, zc1_I, zc1_P, zset1, zset2, zclr, List.getElem?_cons_zero, List.getElem?_cons_succ, List.set_cons_zero, List.set_cons_succ, List.length_cons, List.length_nil, List.take_succ_cons, List.take_zero, List.drop_succ_cons, List.drop_zero, List.reverse_cons, List.reverse_nil, List.nil_append, List.cons_append, Option.toList_some, Option.toList_none, Nat.reduceAdd, Nat.reduceSub, Nat.reduceLeDiff, Nat.reduceBEq, Nat.reduceEqDiff, Int.reduceToNat, Bool.or_false, Bool.false_or, Bool.or_true, Bool.true_or, Bool.false_eq_true, if_true, if_false, ite_true, ite_false, and_true, true_and, and_self, reduceCtorEq, Int.reduceLT, Int.reduceLE, Int.reduceNeg, Int.reduceAdd, Int.reduceSub, Int.reduceMul, Nat.le_refl, or_true, true_or, or_self, Int.reduceEq, za_33, e6]
      ((try unfold zr); (try unfold zix); (repeat' first | exact trivial | assumption | (with_reducible rfl) | omega | (refine And.intro ?_ ?_)))
    have hR1 := yRel_up hR (ypm co wi ms i + ((yD (yE bk ms mf mp) wo (ypm co wi ms) co ms.length d).getD 0 yq0).1, 1 + ((yD (yE bk ms mf mp) wo (ypm co wi ms) co ms.length d).getD 0 yq0).2.1, 1, -6)
    have g0 := (hR 0 (by omega)).1
    rw [Nat.add_zero] at g0
    rw [← g0.1, ← g0.2] at hR1
    have c3 := c_plan_i k hs hb ha hg hta hm wo hwo mf mp hmp hmp3 i d (by omega) _ hD hr Q hQ' 3 0 (va_up a i (ypm co wi ms i + a (i + 1))) (va_up b i (1 + b (i + 1))) (va_up c i 1) (va_up e i (-6)) y rfl (by
      have e7 : yv (yE bk ms mf mp i) wo (ypm co wi ms i) co (yD (yE bk ms mf mp) wo (ypm co wi ms) co ms.length d) 0 = (ypm co wi ms i + a (i + 1), 1 + b (i + 1), 1, -6) := by
        rw [g0.1, g0.2]; rfl
      rw [e7]
      exact hR1)
    have ec : ((1 : Nat) : Int) = 1 := rfl
    rw [ec] at b3
    have ec0 : ((0 : Nat) : Int) + 1 = 1 := rfl
    rw [ec0] at c3
    refine Go_on (fun p => p == 59) 400 ?_; simp only [Ge_s, eM_s, zct_0, zct_I, zct_P, zct_J, eX_iconst, eX_ldc2w, eX_iload, eX_lload, eX_aload, eX_istore, eX_lstore, eX_astore, eX_iinc, eX_iadd, eX_isub, eX_imul, eX_idiv, eX_irem, eX_iand, eX_ishl, eX_ishr, eX_ixor, eX_ineg, eX_dupx2, eX_pop2, eX_land, eX_lor, eX_lshl, eX_lushr, eX_lcmp, eX_i2l, eX_l2i, eX_dup, eX_dup2, eX_ifCond, eX_ificmp, eX_goto, eX_ifnonnull, eX_tableswitch, eX_invokeinterface, eX_multianewarray, eX_getstatic, eX_iaload, eX_laload, eX_baload, eX_aaload, eX_iastore, eX_bastore, eX_lastore, eX_aastore, eX_arraylength, eX_new, eX_newarray, eX_anewarray, eX_invokevirtual, eX_invokestatic, eX_invokespecial, eX_pop, eX_invokedynamic, eX_ireturn, eX_freturn, eX_lreturn, eX_return, eI_s, eJ_s, eP_s, eSI_s, eSJ_s, eSP_s, eInc_s, eAdd_s, eSub_s, eMul_s, eDiv_s, eRem_s, eAnd_s, eXor_s, eNeg_s, eIshl_s, eIshr_s, eDx2_s, ePo2_s, zan_31, zan_255, zan_1, zan_15, zan_m, eLand_s, eLor_s, eLshl_s, eLushr_s, eLcmp_s, eI2l_s, eL2i_s, eDup_s, eDup2_s, eIf_s, eIc_s, eBr_eq, eBr_ne, eBr_lt, eBr_ge, eBr_gt, eBr_le, eNn_s, eNn_n, eG3_s, eG2_s, eGf_s, eP2_s, ePf_s, eAI2_s, eAZ2_s, eAJ2_s, eAQ2_s, eAI_s, eAZ_s, eAJ_s, eAQ_s, eXI2_s, eXZ2_s, eXJ2_s, eXQ2_s, eXI_s, eXZ_s, eXJ_s, eXQ_s, eL2_s, eLn_s, eNa_i, eNa_z, eNa_j, eNq_s, eK_s, eK_n, eR2_s, eRv_s, eRi_s, eCv_s, eCs_s, eCi_s, ePop_s, eMx_s, eMn_s, eCp_s, eCp2_i, eCp2_j, eJd_1, eJd_2, eJd_3, eRI_s, eRZ_s, eRJ_s, eRV_s, zsg_s, zsg_n, zsg_c, List.set_set, Option.map_some, ne_eq, not_false_eq_true, zfit_0, zfit_1, zfit_12, zkd, ↓reduceIte, zc1_I, zc1_P, zset1, zset2, zclr, List.getElem?_cons_zero, List.getElem?_cons_succ, List.set_cons_zero, List.set_cons_succ, List.length_cons, List.length_nil, List.take_succ_cons, List.take_zero, List.drop_succ_cons, List.drop_zero, List.reverse_cons, List.reverse_nil, List.nil_append, List.cons_append, Option.toList_some, Option.toList_none, Nat.reduceAdd, Nat.reduceSub, Nat.reduceLeDiff, Nat.reduceBEq, Nat.reduceEqDiff, Int.reduceToNat, Bool.or_false, Bool.false_or, Bool.or_true, Bool.true_or, Bool.false_eq_true, if_true, if_false, ite_true, ite_false, and_true, true_and, and_self, reduceCtorEq, Int.reduceLT, Int.reduceLE, Int.reduceNeg, Int.reduceAdd, Int.reduceSub, Int.reduceMul, Nat.le_refl, or_true, true_or, or_self, Int.reduceEq, za_33, zf_56, zf_39, zf_35, e1, ha', kh_4 k0, kh_26 k0, b1, b2, b3]
    ((try unfold zr); (try unfold zix); (repeat' first | exact trivial | assumption | (with_reducible rfl) | omega | (refine And.intro ?_ ?_)))
set_option maxRecDepth 100000 in
theorem c_plan (k : zKH h F J V P) (hs : rs (F 5) co wi ap) (hb : rb (V 0) (F 7) (J 8) bk) {ta tb : Nat} {l : Int} {g : Nat → Nat} (ha : h[ta]? = some (oO 8 [vR tb, vI l])) (hg : h[tb]? = some (aJ 12 g)) (hta : ta < 27 ∧ tb < 27) (hm : rm l g ms) (wo : Int) (hwo : zr wo) (mf : Int) (mp : Nat) (hmp : mp = 0 ∨ (0 ≤ mf ∧ mf + mp ≤ ms.length)) (hmp3 : mp ≤ 3) (Q : zQ)
    (hQ : ∀ (a b c e : Nat → Int), yRel 0 ms.length (yD (yE bk ms mf mp) wo (ypm co wi ms) co ms.length ms.length) a b c e → Q (some (vI ((yD (yE bk ms mf mp) wo (ypm co wi ms) co ms.length ms.length).getD 0 yq0).1)) (hhR h a b c e)) : Ca 33 [vR 26, vR 4, vR ta, vI wo, vI mf, vI mp] h Q := by
  have l12 := hm.1.2
  have hl : l = ms.length := hm.1.1
  have e0 : h = hhR h (F 27) (F 28) (F 29) (F 30) := by
    unfold hhR
    rw [zsg_i (kh_27 k), zsg_i (kh_28 k), zsg_i (kh_29 k), zsg_i (kh_30 k)]
  have k1 := kh_hhR k (va_up (F 27) ms.length 0) (F 28) (F 29) (F 30)
  have ha1 : (hhR h (va_up (F 27) ms.length 0) (F 28) (F 29) (F 30))[ta]? = some (oO 8 [vR tb, vI l]) := by rw [hhR_get hta.1]; exact ha
  have ha2 : (hhR h (va_up (F 27) ms.length 0) (va_up (F 28) ms.length 0) (F 29) (F 30))[ta]? = some (oO 8 [vR tb, vI l]) := by rw [hhR_get hta.1]; exact ha
  have b1 := c_lay (h := h) (n := 13) (f := F 27) (i := ms.length) (v := 0) (kh_27 k) (by omega) (by omega) (by omega)
  have e1 : h.set 27 (aI 13 (va_up (F 27) ((ms.length : Int)).toNat 0)) = hhR h (va_up (F 27) ms.length 0) (F 28) (F 29) (F 30) := by
    have e2 : ((ms.length : Int)).toNat = ms.length := by omega
    rw [e2]
    unfold hhR
    rw [zsg_i (i := 28) ((zsg_n (by omega)).trans (kh_28 k)), zsg_i (i := 29) ((zsg_n (by omega)).trans (kh_29 k)), zsg_i (i := 30) ((zsg_n (by omega)).trans (kh_30 k))]
  rw [e1] at b1
  have q28 := kh_28 k1
  have b2 := c_lay (h := hhR h (va_up (F 27) ms.length 0) (F 28) (F 29) (F 30)) (n := 13) (f := F 28) (i := ms.length) (v := 0) q28 (by omega) (by omega) (by omega)
  have e3 : (hhR h (va_up (F 27) ms.length 0) (F 28) (F 29) (F 30)).set 28 (aI 13 (va_up (F 28) ((ms.length : Int)).toNat 0)) = hhR h (va_up (F 27) ms.length 0) (va_up (F 28) ms.length 0) (F 29) (F 30) := by
    have e2 : ((ms.length : Int)).toNat = ms.length := by omega
    rw [e2]
    unfold hhR
    rw [zsg_c (i := 30) (j := 28) (by omega), zsg_c (i := 29) (j := 28) (by omega), List.set_set]
  rw [e3] at b2
  have c3 := c_plan_o k hs hb ha hg hta hm wo hwo mf mp hmp hmp3 Q hQ ms.length 0 ((ms.length : Int) - 1) (va_up (F 27) ms.length 0) (va_up (F 28) ms.length 0) (F 29) (F 30) vU vU (by omega) (by omega) (by
    intro j hj
    obtain rfl : j = 0 := by omega
    refine ⟨?_, fun x => absurd x (by omega)⟩
    rw [y_up, y_up, if_pos (by omega), if_pos (by omega)]
    exact ⟨rfl, rfl⟩)
  rw [ce_33, ← Ge_eq (fun p => p == 32) 33 _ 400]; simp only [Ge_s, eM_s, zct_0, zct_I, zct_P, zct_J, eX_iconst, eX_ldc2w, eX_iload, eX_lload, eX_aload, eX_istore, eX_lstore, eX_astore, eX_iinc, eX_iadd, eX_isub, eX_imul, eX_idiv, eX_irem, eX_iand, eX_ishl, eX_ishr, eX_ixor, eX_ineg, eX_dupx2, eX_pop2, eX_land, eX_lor, eX_lshl, eX_lushr, eX_lcmp, eX_i2l, eX_l2i, eX_dup, eX_dup2, eX_ifCond, eX_ificmp, eX_goto, eX_ifnonnull, eX_tableswitch, eX_invokeinterface, eX_multianewarray, eX_getstatic, eX_iaload, eX_laload, eX_baload, eX_aaload, eX_iastore, eX_bastore, eX_lastore, eX_aastore, eX_arraylength, eX_new, eX_newarray, eX_anewarray, eX_invokevirtual, eX_invokestatic, eX_invokespecial, eX_pop, eX_invokedynamic, eX_ireturn, eX_freturn, eX_lreturn, eX_return, eI_s, eJ_s, eP_s, eSI_s, eSJ_s, eSP_s, eInc_s, eAdd_s, eSub_s, eMul_s, eDiv_s, eRem_s, eAnd_s, eXor_s, eNeg_s, eIshl_s, eIshr_s, eDx2_s, ePo2_s, zan_31, zan_255, zan_1, zan_15, zan_m, eLand_s, eLor_s, eLshl_s, eLushr_s, eLcmp_s, eI2l_s, eL2i_s, eDup_s, eDup2_s, eIf_s, eIc_s, eBr_eq, eBr_ne, eBr_lt, eBr_ge, eBr_gt, eBr_le, eNn_s, eNn_n, eG3_s, eG2_s, eGf_s, eP2_s, ePf_s, eAI2_s, eAZ2_s, eAJ2_s, eAQ2_s, eAI_s, eAZ_s, eAJ_s, eAQ_s, eXI2_s, eXZ2_s, eXJ2_s, eXQ2_s, eXI_s, eXZ_s, eXJ_s, eXQ_s, eL2_s, eLn_s, eNa_i, eNa_z, eNa_j, eNq_s, eK_s, eK_n, eR2_s, eRv_s, eRi_s, eCv_s, eCs_s, eCi_s, ePop_s, eMx_s, eMn_s, eCp_s, eCp2_i, eCp2_j, eJd_1, eJd_2, eJd_3, eRI_s, eRZ_s, eRJ_s, eRV_s, zsg_s, zsg_n, zsg_c, List.set_set, Option.map_some, ne_eq, not_false_eq_true, zfit_0, zfit_1, zfit_12, zkd, ↓reduceIte, zc1_I, zc1_P, zset1, zset2, zclr, List.getElem?_cons_zero, List.getElem?_cons_succ, List.set_cons_zero, List.set_cons_succ, List.length_cons, List.length_nil, List.take_succ_cons, List.take_zero, List.drop_succ_cons, List.drop_zero, List.reverse_cons, List.reverse_nil, List.nil_append, List.cons_append, Option.toList_some, Option.toList_none, Nat.reduceAdd, Nat.reduceSub, Nat.reduceLeDiff, Nat.reduceBEq, Nat.reduceEqDiff, Int.reduceToNat, Bool.or_false, Bool.false_or, Bool.or_true, Bool.true_or, Bool.false_eq_true, if_true, if_false, ite_true, ite_false, and_true, true_and, and_self, reduceCtorEq, Int.reduceLT, Int.reduceLE, Int.reduceNeg, Int.reduceAdd, Int.reduceSub, Int.reduceMul, Nat.le_refl, or_true, true_or, or_self, Int.reduceEq, za_33, zf_98, kh_26 k, kh_26 k1, ha, ha1, ha2, hl, b1, b2]
  ((try unfold zr); (try unfold zix); (repeat' first | exact trivial | assumption | (with_reducible rfl) | omega | (refine And.intro ?_ ?_)))
end
