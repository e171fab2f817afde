/-! The history: keep, takeBack -/
section
variable {h : zH} {F : Nat → Nat → Int} {J : Nat → Nat → Nat} {V : Nat → Int} {P : Nat → Nat → Option Nat} {S : yS} {q : Nat → Option Nat} {N : Nat} {G : yG}
set_option maxRecDepth 100000 in
theorem yo_new {H : zH} (k : zKH H F J V P) : Ca 36 [vR H.length] (H ++ [oO 6 [vN, vN, vN]]) = fun Q => Q none (H ++ ynb H.length) := by
  have h3 : 3 ≤ H.length := Nat.le_of_lt (y_lt_of_get (kh_3 k))
  funext Q
  refine propext ?_
  rw [c_new36 (H := H ++ [oO 6 [vN, vN, vN]]) (a := H.length) (by rw [y_get_app0]; rfl) (by rw [List.length_append]; omega)]
  rw [y_set_app0, List.length_append, List.append_assoc]
  exact Iff.rfl
set_option maxRecDepth 100000 in
theorem c_keep_32 (k : zKH h F J V P) (b : HB h P q N G) (r : rS F J V S) (o n : Nat) (ho : V 3 = o ∧ o < 6) (hn : V 4 = n ∧ n < 6) (Q : zQ) (hQ : ∀ h2 P2 q2 N2, zKH h2 F J (uV (uV V 3 o) 4 (n + 1)) P2 → HB h2 P2 q2 N2 (va_up G ((o + n) % 6) (some S)) → (∀ t, 6 ≤ t → q2 t = q t) → P2 21 = P 21 → Q none h2) : Go 19 32 [vR 19, vR 4, vU, vU] [] h Q := by
  have hp : (o + n) % 6 < 6 := Nat.mod_lt _ (by omega)
  have e0 : ((o : Int) + n).tmod 6 = ((o + n) % 6 : Nat) := by rw [tm_nn (by omega)]; omega
  generalize (o + n) % 6 = p at hp e0 hQ
  have e1 : ¬ (p : Int) < 0 := by omega
  have e2 : (p : Int) < ((6 : Nat) : Int) := by omega
  have e3 : ((p : Nat) : Int).toNat = p := by omega
  have e4 : P 20 p = yad (q p) := b.2.2.2.1.1 p hp
  cases hq : q p with
  | some j =>
    have e5 : P 20 p = some (15 * j + 39) := by rw [e4, hq]; rfl
    have hj := (b.2.1 p (by omega) j hq).1
    obtain ⟨F1, J1, V1, b1⟩ := b.2.2.1 j hj
    have c3 := c_stBlk k b1 r (eK (fun pc ls st h => Go 19 pc ls st h Q) 90 [vR 19, vR 4, vI p, vR (15 * j + 39)] []) (fun h2 F2 J2 V2 b2 r2 fr len => by
      rw [eK_n]
      have k2 := zKH_fr k (fun t ht => fr t (by omega))
      have c4 := hQ (h2.set 19 (oO 2 [vR 20, vI o, vI ((n : Int) + 1)])) P q N (ks_19 k2 o (n + 1)) (HB_fr (HB_put b (by omega) hq b2 r2 fr len) (fun t ht => zsg_n (by omega)) (List.length_set) rfl rfl (fun _ _ _ x => x)) (fun _ _ => rfl) rfl
      refine Go_on (fun _ => false) 400 ?_; simp only [Ge_s, eM_s, zct_0, zct_I, zct_P, zct_J, eX_iconst, eX_ldc2w, eX_iload, eX_lload, eX_aload, eX_istore, eX_lstore, eX_astore, eX_iinc, eX_iadd, eX_isub, eX_imul, eX_idiv, eX_irem, eX_iand, eX_ishl, eX_ishr, eX_ixor, eX_ineg, eX_dupx2, eX_pop2, eX_land, eX_lor, eX_lshl, eX_lushr, eX_lcmp, eX_i2l, eX_l2i, eX_dup, eX_dup2, eX_ifCond, eX_ificmp, eX_goto, eX_ifnonnull, eX_tableswitch, eX_invokeinterface, eX_multianewarray, eX_getstatic, eX_iaload, eX_laload, eX_baload, eX_aaload, eX_iastore, eX_bastore, eX_lastore, eX_aastore, eX_arraylength, eX_new, eX_newarray, eX_anewarray, eX_invokevirtual, eX_invokestatic, eX_invokespecial, eX_pop, eX_invokedynamic, eX_ireturn, eX_freturn, eX_lreturn, eX_return, eI_s, eJ_s, eP_s, eSI_s, eSJ_s, eSP_s, eInc_s, eAdd_s, eSub_s, eMul_s, eDiv_s, eRem_s, eAnd_s, eXor_s, eNeg_s, eIshl_s, eIshr_s, eDx2_s, ePo2_s, zan_31, zan_255, zan_1, zan_15, zan_m, eLand_s, eLor_s, eLshl_s, eLushr_s, eLcmp_s, eI2l_s, eL2i_s, eDup_s, eDup2_s, eIf_s, eIc_s, eBr_eq, eBr_ne, eBr_lt, eBr_ge, eBr_gt, eBr_le, eNn_s, eNn_n, eG3_s, eG2_s, eGf_s, eP2_s, ePf_s, eAI2_s, eAZ2_s, eAJ2_s, eAQ2_s, eAI_s, eAZ_s, eAJ_s, eAQ_s, eXI2_s, eXZ2_s, eXJ2_s, eXQ2_s, eXI_s, eXZ_s, eXJ_s, eXQ_s, eL2_s, eLn_s, eNa_i, eNa_z, eNa_j, eNq_s, eK_s, eK_n, eR2_s, eRv_s, eRi_s, eCv_s, eCs_s, eCi_s, ePop_s, eMx_s, eMn_s, eCp_s, eCp2_i, eCp2_j, eJd_1, eJd_2, eJd_3, eRI_s, eRZ_s, eRJ_s, eRV_s, zsg_s, zsg_n, zsg_c, List.set_set, Option.map_some, ne_eq, not_false_eq_true, zfit_0, zfit_1, zfit_12, zkd, ↓reduceIte, zc1_I, zc1_P, zset1, zset2, zclr, List.getElem?_cons_zero, List.getElem?_cons_succ, List.set_cons_zero, List.set_cons_succ, List.length_cons, List.length_nil, List.take_succ_cons, List.take_zero, List.drop_succ_cons, List.drop_zero, List.reverse_cons, List.reverse_nil, List.nil_append, List.cons_append, Option.toList_some, Option.toList_none, Nat.reduceAdd, Nat.reduceSub, Nat.reduceLeDiff, Nat.reduceBEq, Nat.reduceEqDiff, Int.reduceToNat, Bool.or_false, Bool.false_or, Bool.or_true, Bool.true_or, Bool.false_eq_true, if_true, if_false, ite_true, ite_false, and_true, true_and, and_self, reduceCtorEq, Int.reduceLT, Int.reduceLE, Int.reduceNeg, Int.reduceAdd, Int.reduceSub, Int.reduceMul, Nat.le_refl, or_true, true_or, or_self, Int.reduceEq, za_19, kh_19 k2, ho.1, hn.1]
      ((try unfold zr); (try unfold zix); (repeat' first | exact trivial | assumption | (with_reducible rfl) | omega | (refine And.intro ?_ ?_))))
    refine Go_on (fun p => p == 90) 400 ?_; simp only [Ge_s, eM_s, zct_0, zct_I, zct_P, zct_J, eX_iconst, eX_ldc2w, eX_iload, eX_lload, eX_aload, eX_istore, eX_lstore, eX_astore, eX_iinc, eX_iadd, eX_isub, eX_imul, eX_idiv, eX_irem, eX_iand, eX_ishl, eX_ishr, eX_ixor, eX_ineg, eX_dupx2, eX_pop2, eX_land, eX_lor, eX_lshl, eX_lushr, eX_lcmp, eX_i2l, eX_l2i, eX_dup, eX_dup2, eX_ifCond, eX_ificmp, eX_goto, eX_ifnonnull, eX_tableswitch, eX_invokeinterface, eX_multianewarray, eX_getstatic, eX_iaload, eX_laload, eX_baload, eX_aaload, eX_iastore, eX_bastore, eX_lastore, eX_aastore, eX_arraylength, eX_new, eX_newarray, eX_anewarray, eX_invokevirtual, eX_invokestatic, eX_invokespecial, eX_pop, eX_invokedynamic, eX_ireturn, eX_freturn, eX_lreturn, eX_return, eI_s, eJ_s, eP_s, eSI_s, eSJ_s, eSP_s, eInc_s, eAdd_s, eSub_s, eMul_s, eDiv_s, eRem_s, eAnd_s, eXor_s, eNeg_s, eIshl_s, eIshr_s, eDx2_s, ePo2_s, zan_31, zan_255, zan_1, zan_15, zan_m, eLand_s, eLor_s, eLshl_s, eLushr_s, eLcmp_s, eI2l_s, eL2i_s, eDup_s, eDup2_s, eIf_s, eIc_s, eBr_eq, eBr_ne, eBr_lt, eBr_ge, eBr_gt, eBr_le, eNn_s, eNn_n, eG3_s, eG2_s, eGf_s, eP2_s, ePf_s, eAI2_s, eAZ2_s, eAJ2_s, eAQ2_s, eAI_s, eAZ_s, eAJ_s, eAQ_s, eXI2_s, eXZ2_s, eXJ2_s, eXQ2_s, eXI_s, eXZ_s, eXJ_s, eXQ_s, eL2_s, eLn_s, eNa_i, eNa_z, eNa_j, eNq_s, eK_s, eK_n, eR2_s, eRv_s, eRi_s, eCv_s, eCs_s, eCi_s, ePop_s, eMx_s, eMn_s, eCp_s, eCp2_i, eCp2_j, eJd_1, eJd_2, eJd_3, eRI_s, eRZ_s, eRJ_s, eRV_s, zsg_s, zsg_n, zsg_c, List.set_set, Option.map_some, ne_eq, not_false_eq_true, zfit_0, zfit_1, zfit_12, zkd, ↓reduceIte, zc1_I, zc1_P, zset1, zset2, zclr, List.getElem?_cons_zero, List.getElem?_cons_succ, List.set_cons_zero, List.set_cons_succ, List.length_cons, List.length_nil, List.take_succ_cons, List.take_zero, List.drop_succ_cons, List.drop_zero, List.reverse_cons, List.reverse_nil, List.nil_append, List.cons_append, Option.toList_some, Option.toList_none, Nat.reduceAdd, Nat.reduceSub, Nat.reduceLeDiff, Nat.reduceBEq, Nat.reduceEqDiff, Int.reduceToNat, Bool.or_false, Bool.false_or, Bool.or_true, Bool.true_or, Bool.false_eq_true, if_true, if_false, ite_true, ite_false, and_true, true_and, and_self, reduceCtorEq, Int.reduceLT, Int.reduceLE, Int.reduceNeg, Int.reduceAdd, Int.reduceSub, Int.reduceMul, Nat.le_refl, or_true, true_or, or_self, Int.reduceEq, za_19, zf_43, kh_19 k, kh_20 k, kh_4 k, ho.1, hn.1, e0, e1, e2, e3, e5, bk_4 b1]
    ((try unfold zr); (try unfold zix); (repeat' first | exact trivial | assumption | (with_reducible rfl) | omega | (refine And.intro ?_ ?_)))
  | none =>
    have e5 : P 20 p = none := by rw [e4, hq]; rfl
    have hl : h.length = 15 * N + 39 := by have := b.1.1; omega
    have n1 := yo_new k
    have k1 := zKH_fr (h1 := h ++ ynb h.length) k (fun t ht => List.getElem?_append_left (by omega))
    have k2 := ks_20 k1 (va_up (P 20) p (some h.length))
    rw [hl] at k1 k2 n1
    have bn : zBk (h ++ ynb (15 * N + 39)) (15 * N) yF0 (fun _ _ => 0) (fun _ => 0) := ynb_bk hl
    have b2 := zBk_lo bn 20 (by omega) (aQ 6 (va_up (P 20) p (some (15 * N + 39))))
    have hb2 := HB_new (h2 := (h ++ ynb (15 * N + 39)).set 20 (aQ 6 (va_up (P 20) p (some (15 * N + 39))))) (P2 := uP P 20 (va_up (P 20) p (some (15 * N + 39)))) b (p := p) (by omega) hq (fun t ht => zsg_n (by omega)) (by rw [List.length_set, List.length_append]; rfl) ⟨fun i hi => rfl, fun i hi => by rw [if_neg (by omega)]; rfl⟩
    have c3 := c_stBlk k2 b2 r (eK (fun pc ls st h => Go 19 pc ls st h Q) 90 [vR 19, vR 4, vI p, vR (15 * N + 39)] []) (fun h2 F2 J2 V2 b3 r2 fr len => by
      rw [eK_n]
      have k3 := zKH_fr k2 (fun t ht => fr t (by omega))
      have c4 := hQ (h2.set 19 (oO 2 [vR 20, vI o, vI ((n : Int) + 1)])) _ _ _ (ks_19 k3 o (n + 1)) (HB_fr (HB_put hb2 (p := p) (by omega) (by rw [y_up, if_pos rfl]) b3 r2 fr len) (fun t ht => zsg_n (by omega)) (List.length_set) rfl rfl (fun _ _ _ x => x)) (fun t ht => by rw [y_up, if_neg (by omega)]) rfl
      refine Go_on (fun _ => false) 400 ?_; simp only [Ge_s, eM_s, zct_0, zct_I, zct_P, zct_J, eX_iconst, eX_ldc2w, eX_iload, eX_lload, eX_aload, eX_istore, eX_lstore, eX_astore, eX_iinc, eX_iadd, eX_isub, eX_imul, eX_idiv, eX_irem, eX_iand, eX_ishl, eX_ishr, eX_ixor, eX_ineg, eX_dupx2, eX_pop2, eX_land, eX_lor, eX_lshl, eX_lushr, eX_lcmp, eX_i2l, eX_l2i, eX_dup, eX_dup2, eX_ifCond, eX_ificmp, eX_goto, eX_ifnonnull, eX_tableswitch, eX_invokeinterface, eX_multianewarray, eX_getstatic, eX_iaload, eX_laload, eX_baload, eX_aaload, eX_iastore, eX_bastore, eX_lastore, eX_aastore, eX_arraylength, eX_new, eX_newarray, eX_anewarray, eX_invokevirtual, eX_invokestatic, eX_invokespecial, eX_pop, eX_invokedynamic, eX_ireturn, eX_freturn, eX_lreturn, eX_return, eI_s, eJ_s, eP_s, eSI_s, eSJ_s, eSP_s, eInc_s, eAdd_s, eSub_s, eMul_s, eDiv_s, eRem_s, eAnd_s, eXor_s, eNeg_s, eIshl_s, eIshr_s, eDx2_s, ePo2_s, zan_31, zan_255, zan_1, zan_15, zan_m, eLand_s, eLor_s, eLshl_s, eLushr_s, eLcmp_s, eI2l_s, eL2i_s, eDup_s, eDup2_s, eIf_s, eIc_s, eBr_eq, eBr_ne, eBr_lt, eBr_ge, eBr_gt, eBr_le, eNn_s, eNn_n, eG3_s, eG2_s, eGf_s, eP2_s, ePf_s, eAI2_s, eAZ2_s, eAJ2_s, eAQ2_s, eAI_s, eAZ_s, eAJ_s, eAQ_s, eXI2_s, eXZ2_s, eXJ2_s, eXQ2_s, eXI_s, eXZ_s, eXJ_s, eXQ_s, eL2_s, eLn_s, eNa_i, eNa_z, eNa_j, eNq_s, eK_s, eK_n, eR2_s, eRv_s, eRi_s, eCv_s, eCs_s, eCi_s, ePop_s, eMx_s, eMn_s, eCp_s, eCp2_i, eCp2_j, eJd_1, eJd_2, eJd_3, eRI_s, eRZ_s, eRJ_s, eRV_s, zsg_s, zsg_n, zsg_c, List.set_set, Option.map_some, ne_eq, not_false_eq_true, zfit_0, zfit_1, zfit_12, zkd, ↓reduceIte, zc1_I, zc1_P, zset1, zset2, zclr, List.getElem?_cons_zero, List.getElem?_cons_succ, List.set_cons_zero, List.set_cons_succ, List.length_cons, List.length_nil, List.take_succ_cons, List.take_zero, List.drop_succ_cons, List.drop_zero, List.reverse_cons, List.reverse_nil, List.nil_append, List.cons_append, Option.toList_some, Option.toList_none, Nat.reduceAdd, Nat.reduceSub, Nat.reduceLeDiff, Nat.reduceBEq, Nat.reduceEqDiff, Int.reduceToNat, Bool.or_false, Bool.false_or, Bool.or_true, Bool.true_or, Bool.false_eq_true, if_true, if_false, ite_true, ite_false, and_true, true_and, and_self, reduceCtorEq, Int.reduceLT, Int.reduceLE, Int.reduceNeg, Int.reduceAdd, Int.reduceSub, Int.reduceMul, Nat.le_refl, or_true, true_or, or_self, Int.reduceEq, za_19, kh_19 k3, ho.1, hn.1]
      ((try unfold zr); (try unfold zix); (repeat' first | exact trivial | assumption | (with_reducible rfl) | omega | (refine And.intro ?_ ?_))))
    have g4 := bk_4 b2
    refine Go_on (fun p => p == 90) 400 ?_; simp only [Ge_s, eM_s, zct_0, zct_I, zct_P, zct_J, eX_iconst, eX_ldc2w, eX_iload, eX_lload, eX_aload, eX_istore, eX_lstore, eX_astore, eX_iinc, eX_iadd, eX_isub, eX_imul, eX_idiv, eX_irem, eX_iand, eX_ishl, eX_ishr, eX_ixor, eX_ineg, eX_dupx2, eX_pop2, eX_land, eX_lor, eX_lshl, eX_lushr, eX_lcmp, eX_i2l, eX_l2i, eX_dup, eX_dup2, eX_ifCond, eX_ificmp, eX_goto, eX_ifnonnull, eX_tableswitch, eX_invokeinterface, eX_multianewarray, eX_getstatic, eX_iaload, eX_laload, eX_baload, eX_aaload, eX_iastore, eX_bastore, eX_lastore, eX_aastore, eX_arraylength, eX_new, eX_newarray, eX_anewarray, eX_invokevirtual, eX_invokestatic, eX_invokespecial, eX_pop, eX_invokedynamic, eX_ireturn, eX_freturn, eX_lreturn, eX_return, eI_s, eJ_s, eP_s, eSI_s, eSJ_s, eSP_s, eInc_s, eAdd_s, eSub_s, eMul_s, eDiv_s, eRem_s, eAnd_s, eXor_s, eNeg_s, eIshl_s, eIshr_s, eDx2_s, ePo2_s, zan_31, zan_255, zan_1, zan_15, zan_m, eLand_s, eLor_s, eLshl_s, eLushr_s, eLcmp_s, eI2l_s, eL2i_s, eDup_s, eDup2_s, eIf_s, eIc_s, eBr_eq, eBr_ne, eBr_lt, eBr_ge, eBr_gt, eBr_le, eNn_s, eNn_n, eG3_s, eG2_s, eGf_s, eP2_s, ePf_s, eAI2_s, eAZ2_s, eAJ2_s, eAQ2_s, eAI_s, eAZ_s, eAJ_s, eAQ_s, eXI2_s, eXZ2_s, eXJ2_s, eXQ2_s, eXI_s, eXZ_s, eXJ_s, eXQ_s, eL2_s, eLn_s, eNa_i, eNa_z, eNa_j, eNq_s, eK_s, eK_n, eR2_s, eRv_s, eRi_s, eCv_s, eCs_s, eCi_s, ePop_s, eMx_s, eMn_s, eCp_s, eCp2_i, eCp2_j, eJd_1, eJd_2, eJd_3, eRI_s, eRZ_s, eRJ_s, eRV_s, zsg_s, zsg_n, zsg_c, List.set_set, Option.map_some, ne_eq, not_false_eq_true, zfit_0, zfit_1, zfit_12, zkd, ↓reduceIte, zc1_I, zc1_P, zset1, zset2, zclr, List.getElem?_cons_zero, List.getElem?_cons_succ, List.set_cons_zero, List.set_cons_succ, List.length_cons, List.length_nil, List.take_succ_cons, List.take_zero, List.drop_succ_cons, List.drop_zero, List.reverse_cons, List.reverse_nil, List.nil_append, List.cons_append, Option.toList_some, Option.toList_none, Nat.reduceAdd, Nat.reduceSub, Nat.reduceLeDiff, Nat.reduceBEq, Nat.reduceEqDiff, Int.reduceToNat, Bool.or_false, Bool.false_or, Bool.or_true, Bool.true_or, Bool.false_eq_true, if_true, if_false, ite_true, ite_false, and_true, true_and, and_self, reduceCtorEq, Int.reduceLT, Int.reduceLE, Int.reduceNeg, Int.reduceAdd, Int.reduceSub, Int.reduceMul, Nat.le_refl, or_true, true_or, or_self, Int.reduceEq, za_19, zf_36, zf_43, kh_19 k, kh_20 k, kh_19 k1, kh_20 k1, kh_4 k, ho.1, hn.1, e0, e1, e2, e3, e5, hl, ydf_v, n1, g4, bk_4 bn]
    ((try unfold zr); (try unfold zix); (repeat' first | exact trivial | assumption | (with_reducible rfl) | omega | (refine And.intro ?_ ?_)))
end
abbrev yA : Type := yS × List Int × List yS × Option yS × Option yS
abbrev aS (A : yA) : yS := A.1
abbrev aP (A : yA) : List Int := A.2.1
abbrev aL (A : yA) : List yS := A.2.2.1
abbrev a6 (A : yA) : Option yS := A.2.2.2.1
abbrev a7 (A : yA) : Option yS := A.2.2.2.2
/-- the class's cells hold all that it keeps -/
def CR (h : zH) (F : Nat → Nat → Int) (J : Nat → Nat → Nat) (V : Nat → Int) (P : Nat → Nat → Option Nat) (A : yA) : Prop :=
  ∃ (q : Nat → Option Nat) (N : Nat) (G : yG) (o : Nat), (rS F J V (aS A) ∧ rp (V 5) (F 23) (aP A) ∧ (V 10 = 0 ∨ V 10 = 1)) ∧ HB h P q N G ∧ (V 3 = o ∧ o < 6) ∧ (V 4 = (aL A).length ∧ (aL A).length ≤ 6) ∧ (∀ i, i < (aL A).length → G ((o + i) % 6) = (aL A)[i]?) ∧ (G 6 = a6 A ∧ G 7 = a7 A) ∧ (a6 A = none → q 6 = none) ∧ (a7 A = none → q 7 = none)
def ykp (L : List yS) (S : yS) : List yS := (if L.length = 6 then L.tail else L) ++ [S]
abbrev akp (A : yA) : yA := (aS A, aP A, ykp (aL A) (aS A), a6 A, a7 A)
section
variable {h : zH} {F F2 : Nat → Nat → Int} {J J2 : Nat → Nat → Nat} {V V2 : Nat → Int} {P : Nat → Nat → Option Nat} {S : yS} {q : Nat → Option Nat} {N : Nat} {G : yG} {A : yA}
set_option maxRecDepth 100000 in
theorem ykp_at {L : List yS} {G : yG} {o : Nat} (ho : o < 6) (hl : L.length ≤ 6) (hG : ∀ i, i < L.length → G ((o + i) % 6) = L[i]?) (S : yS) : (L.length = 6 → ∀ i, i < 6 → va_up G (((o + 1) % 6 + 5) % 6) (some S) (((o + 1) % 6 + i) % 6) = (ykp L S)[i]?) ∧ (L.length < 6 → ∀ i, i < L.length + 1 → va_up G ((o + L.length) % 6) (some S) ((o + i) % 6) = (ykp L S)[i]?) := by
  refine ⟨fun h6 i hi => ?_, fun h6 i hi => ?_⟩
  · unfold ykp
    rw [if_pos h6, y_up]
    by_cases c : i = 5
    · subst c
      rw [if_pos rfl, List.getElem?_append_right (by rw [List.length_tail]; omega), List.length_tail, h6]
      rfl
    · rw [if_neg (by omega), List.getElem?_append_left (by rw [List.length_tail]; omega), List.getElem?_tail, ← hG (i + 1) (by omega)]
      exact congrArg G (by omega)
  · unfold ykp
    rw [if_neg (by omega), y_up]
    by_cases c : i = L.length
    · subst c
      rw [if_pos rfl, List.getElem?_append_right (Nat.le_refl _), Nat.sub_self]
      rfl
    · rw [if_neg (by omega), List.getElem?_append_left (by omega), ← hG i (by omega)]
set_option maxRecDepth 100000 in
theorem ykp_len {L : List yS} (hl : L.length ≤ 6) (S : yS) : (ykp L S).length = if L.length = 6 then 6 else L.length + 1 := by
  unfold ykp
  rw [List.length_append]
  split
  · rw [List.length_tail]; simp; omega
  · rfl
set_option maxRecDepth 100000 in
theorem rS_V (r : rS F J V S) (e0 : V2 0 = V 0) (e1 : V2 1 = V 1) (e2 : V2 2 = V 2) : rS F J V2 S := rS_cg ⟨⟨e0, e1, e2⟩, fun _ _ => rfl, fun _ _ => rfl, fun _ _ => rfl, fun _ _ => rfl, fun _ _ => ⟨rfl, rfl, rfl, rfl, rfl⟩, fun _ _ => ⟨rfl, rfl⟩⟩ r
set_option maxRecDepth 100000 in
theorem c_keep (k : zKH h F J V P) (c : CR h F J V P A) (Q : zQ) (hQ : ∀ h2 V2 P2, zKH h2 F J V2 P2 → CR h2 F J V2 P2 (akp A) → (∀ t, t ≠ 3 → t ≠ 4 → V2 t = V t) → P2 21 = P 21 → Q none h2) : Ca 19 [vR 19, vR 4] h Q := by
  obtain ⟨q, N, G, o, ⟨r1, r2, r3⟩, hb, ho, hn, hL, h67, h6, h7⟩ := c
  have yk := ykp_at ho.2 hn.2 hL (aS A)
  have yl := ykp_len hn.2 (aS A)
  by_cases c : (aL A).length = 6
  · have e0 : ((o : Int) + 1).tmod 6 = ((o + 1) % 6 : Nat) := by rw [tm_nn (by omega)]; omega
    have ks := ks_19 k (((o + 1) % 6 : Nat) : Int) 5
    have hn6 : V 4 = 6 := by omega
    have c3 := c_keep_32 ks (HB_fr (G2 := G) hb (h2 := h.set 19 (oO 2 [vR 20, vI (((o + 1) % 6 : Nat) : Int), vI 5])) (fun t ht => zsg_n (by omega)) (List.length_set) rfl rfl (fun _ _ _ x => x)) (rS_V r1 rfl rfl rfl) ((o + 1) % 6) 5 ⟨rfl, by omega⟩ ⟨rfl, by omega⟩ Q (fun h2 P2 q2 N2 k2 hb2 hq h21 => by
      refine hQ _ _ _ k2 ⟨q2, N2, _, (o + 1) % 6, ⟨rS_V r1 rfl rfl rfl, r2, r3⟩, hb2, ⟨rfl, by omega⟩, ⟨?_, ?_⟩, ?_, ?_, ?_, ?_⟩ ?_ h21
      · show (((5 : Nat) : Int) + 1) = ((ykp (aL A) (aS A)).length : Int)
        rw [yl, if_pos c]; rfl
      · show (ykp (aL A) (aS A)).length ≤ 6
        rw [yl, if_pos c]; exact Nat.le_refl _
      · intro i hi
        have hi : i < (ykp (aL A) (aS A)).length := hi
        rw [yl, if_pos c] at hi
        exact yk.1 c i hi
      · rw [y_up, y_up, if_neg (by omega), if_neg (by omega)]
        exact h67
      · intro x; rw [hq 6 (by omega)]; exact h6 x
      · intro x; rw [hq 7 (by omega)]; exact h7 x
      · intro t h3 h4
        rw [uV_out h4, uV_out h3, uV_out h4, uV_out h3])
    have g1 : (h.set 19 (oO 2 [vR 20, vI (((o + 1) % 6 : Nat) : Int), vI 6]))[19]? = some (oO 2 [vR 20, vI (((o + 1) % 6 : Nat) : Int), vI 6]) := zsg_s.trans (by rw [kh_19 k]; rfl)
    rw [ce_19, ← Ge_eq (fun p => p == 32) 19 _ 400]; simp only [Ge_s, eM_s, zct_0, zct_I, zct_P, zct_J, eX_iconst, eX_ldc2w, eX_iload, eX_lload, eX_aload, eX_istore, eX_lstore, eX_astore, eX_iinc, eX_iadd, eX_isub, eX_imul, eX_idiv, eX_irem, eX_iand, eX_ishl, eX_ishr, eX_ixor, eX_ineg, eX_dupx2, eX_pop2, eX_land, eX_lor, eX_lshl, eX_lushr, eX_lcmp, eX_i2l, eX_l2i, eX_dup, eX_dup2, eX_ifCond, eX_ificmp, eX_goto, eX_ifnonnull, eX_tableswitch, eX_invokeinterface, eX_multianewarray, eX_getstatic, eX_iaload, eX_laload, eX_baload, eX_aaload, eX_iastore, eX_bastore, eX_lastore, eX_aastore, eX_arraylength, eX_new, eX_newarray, eX_anewarray, eX_invokevirtual, eX_invokestatic, eX_invokespecial, eX_pop, eX_invokedynamic, eX_ireturn, eX_freturn, eX_lreturn, eX_return, eI_s, eJ_s, eP_s, eSI_s, eSJ_s, eSP_s, eInc_s, eAdd_s, eSub_s, eMul_s, eDiv_s, eRem_s, eAnd_s, eXor_s, eNeg_s, eIshl_s, eIshr_s, eDx2_s, ePo2_s, zan_31, zan_255, zan_1, zan_15, zan_m, eLand_s, eLor_s, eLshl_s, eLushr_s, eLcmp_s, eI2l_s, eL2i_s, eDup_s, eDup2_s, eIf_s, eIc_s, eBr_eq, eBr_ne, eBr_lt, eBr_ge, eBr_gt, eBr_le, eNn_s, eNn_n, eG3_s, eG2_s, eGf_s, eP2_s, ePf_s, eAI2_s, eAZ2_s, eAJ2_s, eAQ2_s, eAI_s, eAZ_s, eAJ_s, eAQ_s, eXI2_s, eXZ2_s, eXJ2_s, eXQ2_s, eXI_s, eXZ_s, eXJ_s, eXQ_s, eL2_s, eLn_s, eNa_i, eNa_z, eNa_j, eNq_s, eK_s, eK_n, eR2_s, eRv_s, eRi_s, eCv_s, eCs_s, eCi_s, ePop_s, eMx_s, eMn_s, eCp_s, eCp2_i, eCp2_j, eJd_1, eJd_2, eJd_3, eRI_s, eRZ_s, eRJ_s, eRV_s, zsg_s, zsg_n, zsg_c, List.set_set, Option.map_some, ne_eq, not_false_eq_true, zfit_0, zfit_1, zfit_12, zkd, ↓reduceIte, zc1_I, zc1_P, zset1, zset2, zclr, List.getElem?_cons_zero, List.getElem?_cons_succ, List.set_cons_zero, List.set_cons_succ, List.length_cons, List.length_nil, List.take_succ_cons, List.take_zero, List.drop_succ_cons, List.drop_zero, List.reverse_cons, List.reverse_nil, List.nil_append, List.cons_append, Option.toList_some, Option.toList_none, Nat.reduceAdd, Nat.reduceSub, Nat.reduceLeDiff, Nat.reduceBEq, Nat.reduceEqDiff, Int.reduceToNat, Bool.or_false, Bool.false_or, Bool.or_true, Bool.true_or, Bool.false_eq_true, if_true, if_false, ite_true, ite_false, and_true, true_and, and_self, reduceCtorEq, Int.reduceLT, Int.reduceLE, Int.reduceNeg, Int.reduceAdd, Int.reduceSub, Int.reduceMul, Nat.le_refl, or_true, true_or, or_self, Int.reduceEq, za_19, kh_19 k, ho.1, hn6, e0, g1]
    ((try unfold zr); (try unfold zix); (repeat' first | exact trivial | assumption | (with_reducible rfl) | omega | (refine And.intro ?_ ?_)))
  · have hlt : (aL A).length < 6 := by omega
    have c3 := c_keep_32 k hb r1 o (aL A).length ho ⟨hn.1, hlt⟩ Q (fun h2 P2 q2 N2 k2 hb2 hq h21 => by
      refine hQ _ _ _ k2 ⟨q2, N2, _, o, ⟨rS_V r1 rfl rfl rfl, r2, r3⟩, hb2, ⟨rfl, ho.2⟩, ⟨?_, ?_⟩, ?_, ?_, ?_, ?_⟩ ?_ h21
      · show (((aL A).length : Int) + 1) = ((ykp (aL A) (aS A)).length : Int)
        rw [yl, if_neg c]; rfl
      · show (ykp (aL A) (aS A)).length ≤ 6
        rw [yl, if_neg c]; omega
      · intro i hi
        have hi : i < (ykp (aL A) (aS A)).length := hi
        rw [yl, if_neg c] at hi
        exact yk.2 hlt i hi
      · rw [y_up, y_up, if_neg (by omega), if_neg (by omega)]
        exact h67
      · intro x; rw [hq 6 (by omega)]; exact h6 x
      · intro x; rw [hq 7 (by omega)]; exact h7 x
      · intro t h3 h4
        rw [uV_out h4, uV_out h3])
    have c6 : ¬ ((aL A).length : Int) = 6 := by omega
    rw [ce_19, ← Ge_eq (fun p => p == 32) 19 _ 400]; simp only [Ge_s, eM_s, zct_0, zct_I, zct_P, zct_J, eX_iconst, eX_ldc2w, eX_iload, eX_lload, eX_aload, eX_istore, eX_lstore, eX_astore, eX_iinc, eX_iadd, eX_isub, eX_imul, eX_idiv, eX_irem, eX_iand, eX_ishl, eX_ishr, eX_ixor, eX_ineg, eX_dupx2, eX_pop2, eX_land, eX_lor, eX_lshl, eX_lushr, eX_lcmp, eX_i2l, eX_l2i, eX_dup, eX_dup2, eX_ifCond, eX_ificmp, eX_goto, eX_ifnonnull, eX_tableswitch, eX_invokeinterface, eX_multianewarray, eX_getstatic, eX_iaload, eX_laload, eX_baload, eX_aaload, eX_iastore, eX_bastore, eX_lastore, eX_aastore, eX_arraylength, eX_new, eX_newarray, eX_anewarray, eX_invokevirtual, eX_invokestatic, eX_invokespecial, eX_pop, eX_invokedynamic, eX_ireturn, eX_freturn, eX_lreturn, eX_return, eI_s, eJ_s, eP_s, eSI_s, eSJ_s, eSP_s, eInc_s, eAdd_s, eSub_s, eMul_s, eDiv_s, eRem_s, eAnd_s, eXor_s, eNeg_s, eIshl_s, eIshr_s, eDx2_s, ePo2_s, zan_31, zan_255, zan_1, zan_15, zan_m, eLand_s, eLor_s, eLshl_s, eLushr_s, eLcmp_s, eI2l_s, eL2i_s, eDup_s, eDup2_s, eIf_s, eIc_s, eBr_eq, eBr_ne, eBr_lt, eBr_ge, eBr_gt, eBr_le, eNn_s, eNn_n, eG3_s, eG2_s, eGf_s, eP2_s, ePf_s, eAI2_s, eAZ2_s, eAJ2_s, eAQ2_s, eAI_s, eAZ_s, eAJ_s, eAQ_s, eXI2_s, eXZ2_s, eXJ2_s, eXQ2_s, eXI_s, eXZ_s, eXJ_s, eXQ_s, eL2_s, eLn_s, eNa_i, eNa_z, eNa_j, eNq_s, eK_s, eK_n, eR2_s, eRv_s, eRi_s, eCv_s, eCs_s, eCi_s, ePop_s, eMx_s, eMn_s, eCp_s, eCp2_i, eCp2_j, eJd_1, eJd_2, eJd_3, eRI_s, eRZ_s, eRJ_s, eRV_s, zsg_s, zsg_n, zsg_c, List.set_set, Option.map_some, ne_eq, not_false_eq_true, zfit_0, zfit_1, zfit_12, zkd, ↓reduceIte, zc1_I, zc1_P, zset1, zset2, zclr, List.getElem?_cons_zero, List.getElem?_cons_succ, List.set_cons_zero, List.set_cons_succ, List.length_cons, List.length_nil, List.take_succ_cons, List.take_zero, List.drop_succ_cons, List.drop_zero, List.reverse_cons, List.reverse_nil, List.nil_append, List.cons_append, Option.toList_some, Option.toList_none, Nat.reduceAdd, Nat.reduceSub, Nat.reduceLeDiff, Nat.reduceBEq, Nat.reduceEqDiff, Int.reduceToNat, Bool.or_false, Bool.false_or, Bool.or_true, Bool.true_or, Bool.false_eq_true, if_true, if_false, ite_true, ite_false, and_true, true_and, and_self, reduceCtorEq, Int.reduceLT, Int.reduceLE, Int.reduceNeg, Int.reduceAdd, Int.reduceSub, Int.reduceMul, Nat.le_refl, or_true, true_or, or_self, Int.reduceEq, za_19, kh_19 k, hn.1, c6]
    ((try unfold zr); (try unfold zix); (repeat' first | exact trivial | assumption | (with_reducible rfl) | omega | (refine And.intro ?_ ?_)))
end
