/-! The class: write, sendMessage -/
abbrev ysn (co wi : Int) (bk : yB) (ms : yF) : List yT := yns co wi bk ms (yDs co wi bk ms (-6) (-6) 0) ms.length 0
set_option maxRecDepth 100000 in
theorem yns_ok {co wi : Int} {bk : yB} {ms : yF} {D : List yQ} (hco : 1 ≤ co ∧ co ≤ 99) (hwi : 2 ≤ wi ∧ wi ≤ 15) (hm : yokF ms) (ok : yok bk ms D) : ∀ f i, i ≤ ms.length → (yns co wi bk ms D f i).length ≤ ms.length - i ∧ ∀ t ∈ yns co wi bk ms D f i, yokT ms.length t ∧ tre t = tor t := by
  intro f
  induction f with
  | zero => intro i hi; exact ⟨by unfold yns; simp, fun t ht => absurd ht (by unfold yns; simp)⟩
  | succ f ih =>
    intro i hi
    unfold yns
    by_cases c : i < ms.length
    · rw [if_pos c]
      have o := ok i c
      have h := ih (i + (D.getD i yq0).2.2.1) (by omega)
      refine ⟨by rw [List.length_cons]; omega, fun t ht => ?_⟩
      rcases List.mem_cons.1 ht with rfl | ht
      · have nl := ynt_len (bk := bk) hm co wi i (D.getD i yq0).2.2.1 (D.getD i yq0).2.2.2
        refine ⟨⟨by rw [nl.2.2.1, nl.2.2.2]; omega, ⟨by rw [nl.2.1], by rw [nl.2.1]; exact nl.1⟩, ?_⟩, nl.2.1⟩
        rw [nl.2.1]
        have w := ywd_ok hm (i : Int)
        rw [ywd_nat] at w
        have r := ypc_r hco hwi w.2
        unfold ynt
        split
        · exact ⟨Or.inl rfl, r, ypw_r _ w.1, ypw_r _ w.1⟩
        · exact ⟨Or.inr rfl, show 0 ≤ co ∧ co ≤ 1287 from ⟨by omega, by omega⟩, ycw_r _, ycw_r _⟩
      · exact h.2 t ht
    · rw [if_neg c]
      exact ⟨by simp, fun t ht => absurd ht (by simp)⟩
section
variable {h h2 h3 : zH} {F F2 F3 : Nat → Nat → Int} {J : Nat → Nat → Nat} {V V2 V3 : Nat → Int} {P : Nat → Nat → Option Nat} {bk : yB} {co wi ap : Int} {ms : yF} {D : List yQ}
set_option maxRecDepth 100000 in
theorem c_write (ok : yok bk ms D) (k : zKH h F J V P) (hs : rs (F 5) co wi ap) (hb : rb (V 0) (F 7) (J 8) bk) (hm : rm (V 2) (J 11) ms) (hl : rl (F 17) (F 18)) (hD : ∀ j, j < ms.length → F 29 j = ((D.getD j yq0).2.2.1 : Int) ∧ F 30 j = (D.getD j yq0).2.2.2) (Q : zQ) (hQ : ∀ h2 F2 V2, zKH h2 F2 J V2 P → (∀ t, t < 12 ∨ 19 ≤ t → F2 t = F t) → (∀ t, t ≠ 1 → V2 t = V t) → (∀ t, t < 9 ∨ 19 ≤ t → h2[t]? = h[t]?) → h2.length = h.length → rT F2 V2 ms.length (yns co wi bk ms D ms.length 0) → rl (F2 17) (F2 18) → Q none h2) : Ca 50 [vR 9, vR 4, vR 26] h Q := by
  have l12 := hm.1.2
  have k0 := ks_9 k 0
  have no := yns_ok hs.2.1 hs.2.2.1 hm.2.1 ok ms.length 0 (by omega)
  have c3 := c_write_l ok hm.2.1 ms.length 0 [] (h.set 9 (oO 7 [vR 10, vR 12, vR 13, vR 14, vR 15, vR 16, vR 17, vR 18, vI 0])) F (uV V 1 0) vU (by omega) (by omega) (by simp) k0 hs hb hm rfl (fun u hu => absurd hu (by simp)) (fun u hu => absurd hu (by simp)) (fun j hj => (hl j hj).1) hD Q (fun h2 F2 V2 x y k2 fw hw hV hl2 => by
    rw [List.nil_append] at hw hV
    have b1 := c_copyRow (kh_17 k2) (kh_18 k2) (by omega) (by omega) (by omega)
    have k3 := ks_18 k2 (va_cpy (F2 17) (F2 18) 0 0 156)
    have c4 := hQ _ _ _ k3 (fun t ht => by
      rw [uF_out (by omega)]
      exact fw.1.1 t (by omega)) (fun t ht => (fw.1.2 t ht).trans (uV_out ht)) (fun t ht => (zsg_n (by omega)).trans ((fw.2.1 t (by omega)).trans (zsg_n (by omega)))) (by rw [List.length_set, fw.2.2, List.length_set]) (by
      refine ⟨⟨hV, by omega⟩, fun i hi => ?_⟩
      have w := hw i hi
      have o := no.2 (sw (yns co wi bk ms D ms.length 0) i) (ygetD_mem hi)
      refine ⟨o.1, ⟨w.1.1, w.1.2.1, w.1.2.2.1, w.1.2.2.2.1, by rw [o.2]; exact w.1.2.2.2.2⟩, fun j hj => ?_⟩
      rw [o.2] at hj ⊢
      have l13 := o.1.2.1
      rw [o.2] at l13
      refine ⟨w.2 j hj, ?_⟩
      have : uF F2 18 (va_cpy (F2 17) (F2 18) 0 0 156) 18 (13 * i + j) = F2 17 (13 * i + j) := y_cp (by omega)
      rw [this]
      exact w.2 j hj) (by
      intro j hj
      have : uF F2 18 (va_cpy (F2 17) (F2 18) 0 0 156) 18 j = F2 17 j := y_cp hj
      rw [this]
      exact ⟨hl2 j hj, hl2 j hj⟩)
    refine Go_on (fun _ => false) 400 ?_; simp only [Ge_s, eM_s, zct_0, zct_I, zct_P, zct_J, eX_iconst, eX_ldc2w, eX_iload, eX_lload, eX_aload, eX_istore, eX_lstore, eX_astore, eX_iinc, eX_iadd, eX_isub, eX_imul, eX_idiv, eX_irem, eX_iand, eX_land, eX_lor, eX_lshl, eX_lushr, eX_lcmp, eX_i2l, eX_l2i, eX_dup, eX_dup2, eX_ifCond, eX_ificmp, eX_goto, eX_ifnonnull, eX_tableswitch, eX_invokeinterface, eX_multianewarray, eX_getstatic, eX_iaload, eX_laload, eX_baload, eX_aaload, eX_iastore, eX_bastore, eX_lastore, eX_aastore, eX_arraylength, eX_new, eX_newarray, eX_anewarray, eX_invokevirtual, eX_invokestatic, eX_invokespecial, eX_pop, eX_invokedynamic, eX_ireturn, eX_freturn, eX_lreturn, eX_return, eI_s, eJ_s, eP_s, eSI_s, eSJ_s, eSP_s, eInc_s, eAdd_s, eSub_s, eMul_s, eDiv_s, eRem_s, eAnd_s, eLand_s, eLor_s, eLshl_s, eLushr_s, eLcmp_s, eI2l_s, eL2i_s, eDup_s, eDup2_s, eIf_s, eIc_s, eBr_eq, eBr_ne, eBr_lt, eBr_ge, eBr_gt, eBr_le, eNn_s, eNn_n, eG3_s, eG2_s, eGf_s, eP2_s, ePf_s, eAI2_s, eAZ2_s, eAJ2_s, eAQ2_s, eAI_s, eAZ_s, eAJ_s, eAQ_s, eXI2_s, eXZ2_s, eXJ2_s, eXQ2_s, eXI_s, eXZ_s, eXJ_s, eXQ_s, eL2_s, eLn_s, eNa_i, eNa_z, eNa_j, eNq_s, eK_s, eK_n, eR2_s, eRv_s, eRi_s, eCv_s, eCs_s, eCi_s, ePop_s, eMx_s, eMn_s, eCp_s, eCp2_i, eCp2_j, eJd_1, eJd_2, eJd_3, eRI_s, eRZ_s, eRJ_s, eRV_s, zsg_s, zsg_n, zsg_c, List.set_set, Option.map_some, ne_eq, not_false_eq_true, zfit_0, zfit_1, zfit_12, zkd, ↓reduceIte, zc1_I, zc1_P, zset1, zset2, zclr, List.getElem?_cons_zero, List.getElem?_cons_succ, List.set_cons_zero, List.set_cons_succ, List.length_cons, List.length_nil, List.take_succ_cons, List.take_zero, List.drop_succ_cons, List.drop_zero, List.reverse_cons, List.reverse_nil, List.nil_append, List.cons_append, Option.toList_some, Option.toList_none, Nat.reduceAdd, Nat.reduceSub, Nat.reduceLeDiff, Nat.reduceBEq, Nat.reduceEqDiff, Int.reduceToNat, Bool.or_false, Bool.false_or, Bool.or_true, Bool.true_or, Bool.false_eq_true, if_true, if_false, ite_true, ite_false, and_true, true_and, and_self, reduceCtorEq, Int.reduceLT, Int.reduceLE, Int.reduceNeg, Int.reduceAdd, Int.reduceSub, Int.reduceMul, Nat.le_refl, or_true, true_or, or_self, Int.reduceEq, za_50, zf_100, kh_9 k2, b1]
    ((try unfold zr); (try unfold zix); (repeat' first | exact trivial | assumption | (with_reducible rfl) | omega | (refine And.intro ?_ ?_))))
  rw [ce_50, ← Ge_eq (fun p => p == 7) 50 _ 400]; simp only [Ge_s, eM_s, zct_0, zct_I, zct_P, zct_J, eX_iconst, eX_ldc2w, eX_iload, eX_lload, eX_aload, eX_istore, eX_lstore, eX_astore, eX_iinc, eX_iadd, eX_isub, eX_imul, eX_idiv, eX_irem, eX_iand, eX_land, eX_lor, eX_lshl, eX_lushr, eX_lcmp, eX_i2l, eX_l2i, eX_dup, eX_dup2, eX_ifCond, eX_ificmp, eX_goto, eX_ifnonnull, eX_tableswitch, eX_invokeinterface, eX_multianewarray, eX_getstatic, eX_iaload, eX_laload, eX_baload, eX_aaload, eX_iastore, eX_bastore, eX_lastore, eX_aastore, eX_arraylength, eX_new, eX_newarray, eX_anewarray, eX_invokevirtual, eX_invokestatic, eX_invokespecial, eX_pop, eX_invokedynamic, eX_ireturn, eX_freturn, eX_lreturn, eX_return, eI_s, eJ_s, eP_s, eSI_s, eSJ_s, eSP_s, eInc_s, eAdd_s, eSub_s, eMul_s, eDiv_s, eRem_s, eAnd_s, eLand_s, eLor_s, eLshl_s, eLushr_s, eLcmp_s, eI2l_s, eL2i_s, eDup_s, eDup2_s, eIf_s, eIc_s, eBr_eq, eBr_ne, eBr_lt, eBr_ge, eBr_gt, eBr_le, eNn_s, eNn_n, eG3_s, eG2_s, eGf_s, eP2_s, ePf_s, eAI2_s, eAZ2_s, eAJ2_s, eAQ2_s, eAI_s, eAZ_s, eAJ_s, eAQ_s, eXI2_s, eXZ2_s, eXJ2_s, eXQ2_s, eXI_s, eXZ_s, eXJ_s, eXQ_s, eL2_s, eLn_s, eNa_i, eNa_z, eNa_j, eNq_s, eK_s, eK_n, eR2_s, eRv_s, eRi_s, eCv_s, eCs_s, eCi_s, ePop_s, eMx_s, eMn_s, eCp_s, eCp2_i, eCp2_j, eJd_1, eJd_2, eJd_3, eRI_s, eRZ_s, eRJ_s, eRV_s, zsg_s, zsg_n, zsg_c, List.set_set, Option.map_some, ne_eq, not_false_eq_true, zfit_0, zfit_1, zfit_12, zkd, ↓reduceIte, zc1_I, zc1_P, zset1, zset2, zclr, List.getElem?_cons_zero, List.getElem?_cons_succ, List.set_cons_zero, List.set_cons_succ, List.length_cons, List.length_nil, List.take_succ_cons, List.take_zero, List.drop_succ_cons, List.drop_zero, List.reverse_cons, List.reverse_nil, List.nil_append, List.cons_append, Option.toList_some, Option.toList_none, Nat.reduceAdd, Nat.reduceSub, Nat.reduceLeDiff, Nat.reduceBEq, Nat.reduceEqDiff, Int.reduceToNat, Bool.or_false, Bool.false_or, Bool.or_true, Bool.true_or, Bool.false_eq_true, if_true, if_false, ite_true, ite_false, and_true, true_and, and_self, reduceCtorEq, Int.reduceLT, Int.reduceLE, Int.reduceNeg, Int.reduceAdd, Int.reduceSub, Int.reduceMul, Nat.le_refl, or_true, true_or, or_self, Int.reduceEq, za_50, kh_9 k]
  ((try unfold zr); (try unfold zix); (repeat' first | exact trivial | assumption | (with_reducible rfl) | omega | (refine And.intro ?_ ?_)))
set_option maxRecDepth 100000 in
theorem c_sendMessage (k : zKH h F J V P) (hs : rs (F 5) co wi ap) (hb : rb (V 0) (F 7) (J 8) bk) (hm : rm (V 2) (J 11) ms) (hl : rl (F 17) (F 18)) (Q : zQ) (hQ : ∀ h2 F2 V2, zKH h2 F2 J V2 P → (∀ t, t < 12 ∨ (19 ≤ t ∧ t < 27) ∨ 31 ≤ t → F2 t = F t) → (∀ t, t ≠ 1 → V2 t = V t) → (∀ t, 48 ≤ t → h2[t]? = h[t]?) → h2.length = h.length → rT F2 V2 ms.length (ysn co wi bk ms) → rl (F2 17) (F2 18) → Q (some (vI ((yDs co wi bk ms (-6) (-6) 0).getD 0 yq0).1)) h2) : Ca 86 [vR 3] h Q := by
  have c3 := c_plan k hs hb (kh_10 k) (kh_11 k) (by omega) hm (-6) (by unfold zr; omega) (-6) 0 (Or.inl rfl) (by omega) (eK (fun pc ls st h => Go 86 pc ls st h Q) 26 [vR 3, vU] []) (fun a b c e hR => by
    rw [eK_s]
    have k1 := kh_hhR k a b c e
    have c4 := c_write (h := hhR h a b c e) (co := co) (wi := wi) (ap := ap) (yok_D co wi bk ms (-6)) k1 hs hb hm hl (fun j hj => by
      have x := (hR j (by omega)).2 hj
      rw [Nat.zero_add] at x
      exact x) (eK (fun pc ls st h => Go 86 pc ls st h Q) 45 [vR 3, vI ((yDs co wi bk ms (-6) (-6) 0).getD 0 yq0).1] []) (fun h2 F2 V2 k2 fF fV fh fl r1 r2 => by
      rw [eK_n]
      have c5 := hQ h2 F2 V2 k2 (fun t ht => by
        rw [fF t (by omega)]
        show uF (uF (uF (uF F 27 a) 28 b) 29 c) 30 e t = _
        rw [uF_out (by omega), uF_out (by omega), uF_out (by omega), uF_out (by omega)]) fV (fun t ht => by
        rw [fh t (by omega)]
        unfold hhR
        rw [zsg_n (by omega), zsg_n (by omega), zsg_n (by omega), zsg_n (by omega)]) (by
        rw [fl]
        unfold hhR
        simp only [List.length_set]) r1 r2
      refine Go_on (fun _ => false) 400 ?_; simp only [Ge_s, eM_s, zct_0, zct_I, zct_P, zct_J, eX_iconst, eX_ldc2w, eX_iload, eX_lload, eX_aload, eX_istore, eX_lstore, eX_astore, eX_iinc, eX_iadd, eX_isub, eX_imul, eX_idiv, eX_irem, eX_iand, eX_land, eX_lor, eX_lshl, eX_lushr, eX_lcmp, eX_i2l, eX_l2i, eX_dup, eX_dup2, eX_ifCond, eX_ificmp, eX_goto, eX_ifnonnull, eX_tableswitch, eX_invokeinterface, eX_multianewarray, eX_getstatic, eX_iaload, eX_laload, eX_baload, eX_aaload, eX_iastore, eX_bastore, eX_lastore, eX_aastore, eX_arraylength, eX_new, eX_newarray, eX_anewarray, eX_invokevirtual, eX_invokestatic, eX_invokespecial, eX_pop, eX_invokedynamic, eX_ireturn, eX_freturn, eX_lreturn, eX_return, eI_s, eJ_s, eP_s, eSI_s, eSJ_s, eSP_s, eInc_s, eAdd_s, eSub_s, eMul_s, eDiv_s, eRem_s, eAnd_s, eLand_s, eLor_s, eLshl_s, eLushr_s, eLcmp_s, eI2l_s, eL2i_s, eDup_s, eDup2_s, eIf_s, eIc_s, eBr_eq, eBr_ne, eBr_lt, eBr_ge, eBr_gt, eBr_le, eNn_s, eNn_n, eG3_s, eG2_s, eGf_s, eP2_s, ePf_s, eAI2_s, eAZ2_s, eAJ2_s, eAQ2_s, eAI_s, eAZ_s, eAJ_s, eAQ_s, eXI2_s, eXZ2_s, eXJ2_s, eXQ2_s, eXI_s, eXZ_s, eXJ_s, eXQ_s, eL2_s, eLn_s, eNa_i, eNa_z, eNa_j, eNq_s, eK_s, eK_n, eR2_s, eRv_s, eRi_s, eCv_s, eCs_s, eCi_s, ePop_s, eMx_s, eMn_s, eCp_s, eCp2_i, eCp2_j, eJd_1, eJd_2, eJd_3, eRI_s, eRZ_s, eRJ_s, eRV_s, zsg_s, zsg_n, zsg_c, List.set_set, Option.map_some, ne_eq, not_false_eq_true, zfit_0, zfit_1, zfit_12, zkd, ↓reduceIte, zc1_I, zc1_P, zset1, zset2, zclr, List.getElem?_cons_zero, List.getElem?_cons_succ, List.set_cons_zero, List.set_cons_succ, List.length_cons, List.length_nil, List.take_succ_cons, List.take_zero, List.drop_succ_cons, List.drop_zero, List.reverse_cons, List.reverse_nil, List.nil_append, List.cons_append, Option.toList_some, Option.toList_none, Nat.reduceAdd, Nat.reduceSub, Nat.reduceLeDiff, Nat.reduceBEq, Nat.reduceEqDiff, Int.reduceToNat, Bool.or_false, Bool.false_or, Bool.or_true, Bool.true_or, Bool.false_eq_true, if_true, if_false, ite_true, ite_false, and_true, true_and, and_self, reduceCtorEq, Int.reduceLT, Int.reduceLE, Int.reduceNeg, Int.reduceAdd, Int.reduceSub, Int.reduceMul, Nat.le_refl, or_true, true_or, or_self, Int.reduceEq, za_86]
      ((try unfold zr); (try unfold zix); (repeat' first | exact trivial | assumption | (with_reducible rfl) | omega | (refine And.intro ?_ ?_))))
    refine Go_on (fun p => p == 45) 400 ?_; simp only [Ge_s, eM_s, zct_0, zct_I, zct_P, zct_J, eX_iconst, eX_ldc2w, eX_iload, eX_lload, eX_aload, eX_istore, eX_lstore, eX_astore, eX_iinc, eX_iadd, eX_isub, eX_imul, eX_idiv, eX_irem, eX_iand, eX_land, eX_lor, eX_lshl, eX_lushr, eX_lcmp, eX_i2l, eX_l2i, eX_dup, eX_dup2, eX_ifCond, eX_ificmp, eX_goto, eX_ifnonnull, eX_tableswitch, eX_invokeinterface, eX_multianewarray, eX_getstatic, eX_iaload, eX_laload, eX_baload, eX_aaload, eX_iastore, eX_bastore, eX_lastore, eX_aastore, eX_arraylength, eX_new, eX_newarray, eX_anewarray, eX_invokevirtual, eX_invokestatic, eX_invokespecial, eX_pop, eX_invokedynamic, eX_ireturn, eX_freturn, eX_lreturn, eX_return, eI_s, eJ_s, eP_s, eSI_s, eSJ_s, eSP_s, eInc_s, eAdd_s, eSub_s, eMul_s, eDiv_s, eRem_s, eAnd_s, eLand_s, eLor_s, eLshl_s, eLushr_s, eLcmp_s, eI2l_s, eL2i_s, eDup_s, eDup2_s, eIf_s, eIc_s, eBr_eq, eBr_ne, eBr_lt, eBr_ge, eBr_gt, eBr_le, eNn_s, eNn_n, eG3_s, eG2_s, eGf_s, eP2_s, ePf_s, eAI2_s, eAZ2_s, eAJ2_s, eAQ2_s, eAI_s, eAZ_s, eAJ_s, eAQ_s, eXI2_s, eXZ2_s, eXJ2_s, eXQ2_s, eXI_s, eXZ_s, eXJ_s, eXQ_s, eL2_s, eLn_s, eNa_i, eNa_z, eNa_j, eNq_s, eK_s, eK_n, eR2_s, eRv_s, eRi_s, eCv_s, eCs_s, eCi_s, ePop_s, eMx_s, eMn_s, eCp_s, eCp2_i, eCp2_j, eJd_1, eJd_2, eJd_3, eRI_s, eRZ_s, eRJ_s, eRV_s, zsg_s, zsg_n, zsg_c, List.set_set, Option.map_some, ne_eq, not_false_eq_true, zfit_0, zfit_1, zfit_12, zkd, ↓reduceIte, zc1_I, zc1_P, zset1, zset2, zclr, List.getElem?_cons_zero, List.getElem?_cons_succ, List.set_cons_zero, List.set_cons_succ, List.length_cons, List.length_nil, List.take_succ_cons, List.take_zero, List.drop_succ_cons, List.drop_zero, List.reverse_cons, List.reverse_nil, List.nil_append, List.cons_append, Option.toList_some, Option.toList_none, Nat.reduceAdd, Nat.reduceSub, Nat.reduceLeDiff, Nat.reduceBEq, Nat.reduceEqDiff, Int.reduceToNat, Bool.or_false, Bool.false_or, Bool.or_true, Bool.true_or, Bool.false_eq_true, if_true, if_false, ite_true, ite_false, and_true, true_and, and_self, reduceCtorEq, Int.reduceLT, Int.reduceLE, Int.reduceNeg, Int.reduceAdd, Int.reduceSub, Int.reduceMul, Nat.le_refl, or_true, true_or, or_self, Int.reduceEq, za_86, zf_50, kh_3 k1, kh_4 k1, kh_9 k1]
    ((try unfold zr); (try unfold zix); (repeat' first | exact trivial | assumption | (with_reducible rfl) | omega | (refine And.intro ?_ ?_))))
  rw [ce_86, ← Ge_eq (fun p => p == 26) 86 _ 400]; simp only [Ge_s, eM_s, zct_0, zct_I, zct_P, zct_J, eX_iconst, eX_ldc2w, eX_iload, eX_lload, eX_aload, eX_istore, eX_lstore, eX_astore, eX_iinc, eX_iadd, eX_isub, eX_imul, eX_idiv, eX_irem, eX_iand, eX_land, eX_lor, eX_lshl, eX_lushr, eX_lcmp, eX_i2l, eX_l2i, eX_dup, eX_dup2, eX_ifCond, eX_ificmp, eX_goto, eX_ifnonnull, eX_tableswitch, eX_invokeinterface, eX_multianewarray, eX_getstatic, eX_iaload, eX_laload, eX_baload, eX_aaload, eX_iastore, eX_bastore, eX_lastore, eX_aastore, eX_arraylength, eX_new, eX_newarray, eX_anewarray, eX_invokevirtual, eX_invokestatic, eX_invokespecial, eX_pop, eX_invokedynamic, eX_ireturn, eX_freturn, eX_lreturn, eX_return, eI_s, eJ_s, eP_s, eSI_s, eSJ_s, eSP_s, eInc_s, eAdd_s, eSub_s, eMul_s, eDiv_s, eRem_s, eAnd_s, eLand_s, eLor_s, eLshl_s, eLushr_s, eLcmp_s, eI2l_s, eL2i_s, eDup_s, eDup2_s, eIf_s, eIc_s, eBr_eq, eBr_ne, eBr_lt, eBr_ge, eBr_gt, eBr_le, eNn_s, eNn_n, eG3_s, eG2_s, eGf_s, eP2_s, ePf_s, eAI2_s, eAZ2_s, eAJ2_s, eAQ2_s, eAI_s, eAZ_s, eAJ_s, eAQ_s, eXI2_s, eXZ2_s, eXJ2_s, eXQ2_s, eXI_s, eXZ_s, eXJ_s, eXQ_s, eL2_s, eLn_s, eNa_i, eNa_z, eNa_j, eNq_s, eK_s, eK_n, eR2_s, eRv_s, eRi_s, eCv_s, eCs_s, eCi_s, ePop_s, eMx_s, eMn_s, eCp_s, eCp2_i, eCp2_j, eJd_1, eJd_2, eJd_3, eRI_s, eRZ_s, eRJ_s, eRV_s, zsg_s, zsg_n, zsg_c, List.set_set, Option.map_some, ne_eq, not_false_eq_true, zfit_0, zfit_1, zfit_12, zkd, ↓reduceIte, zc1_I, zc1_P, zset1, zset2, zclr, List.getElem?_cons_zero, List.getElem?_cons_succ, List.set_cons_zero, List.set_cons_succ, List.length_cons, List.length_nil, List.take_succ_cons, List.take_zero, List.drop_succ_cons, List.drop_zero, List.reverse_cons, List.reverse_nil, List.nil_append, List.cons_append, Option.toList_some, Option.toList_none, Nat.reduceAdd, Nat.reduceSub, Nat.reduceLeDiff, Nat.reduceBEq, Nat.reduceEqDiff, Int.reduceToNat, Bool.or_false, Bool.false_or, Bool.or_true, Bool.true_or, Bool.false_eq_true, if_true, if_false, ite_true, ite_false, and_true, true_and, and_self, reduceCtorEq, Int.reduceLT, Int.reduceLE, Int.reduceNeg, Int.reduceAdd, Int.reduceSub, Int.reduceMul, Nat.le_refl, or_true, true_or, or_self, Int.reduceEq, za_86, zf_33, kh_3 k, kh_4 k, kh_9 k, kh_26 k]
  ((try unfold zr); (try unfold zix); (repeat' first | exact trivial | assumption | (with_reducible rfl) | omega | (refine And.intro ?_ ?_)))
end
