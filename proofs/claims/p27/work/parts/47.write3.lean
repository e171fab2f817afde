/-! The class: the sent words are written, all -/
def yWr (F : Nat → Nat → Int) (ts : List yT) : Prop := ∀ u, u < ts.length → (F 12 u = tfi (sw ts u) ∧ F 13 u = tsp (sw ts u) ∧ F 14 u = tco (sw ts u) ∧ F 15 u = tpa (sw ts u) ∧ F 16 u = ((tor (sw ts u)).length : Int)) ∧ ∀ j, j < (tor (sw ts u)).length → F 17 (13 * u + j) = (((tor (sw ts u)).getD j 0 : Nat) : Int)
set_option maxRecDepth 100000 in
theorem sw_snoc (ts : List yT) (t : yT) (u : Nat) : sw (ts ++ [t]) u = if u = ts.length then t else sw ts u := by
  unfold sw
  rw [List.getD_eq_getElem?_getD]
  by_cases c : u = ts.length
  · rw [if_pos c, c, List.getElem?_append_right (Nat.le_refl _), Nat.sub_self]; rfl
  · rw [if_neg c, List.getD_eq_getElem?_getD]
    by_cases c2 : u < ts.length
    · rw [List.getElem?_append_left c2]
    · rw [List.getElem?_eq_none (by rw [List.length_append, List.length_singleton]; omega), List.getElem?_eq_none (by omega)]
set_option maxRecDepth 100000 in
theorem yWr_snoc {F F2 : Nat → Nat → Int} {ts : List yT} (hl : ∀ u, u < ts.length → (tor (sw ts u)).length ≤ 13) (w : yWr F ts) (t : yT) (m : Nat) (hm : m = ts.length) (h12 : ∀ u, F2 12 u = if u = m then (tfi t : Int) else F 12 u) (h13 : ∀ u, F2 13 u = if u = m then (tsp t : Int) else F 13 u) (h14 : ∀ u, F2 14 u = if u = m then tco t else F 14 u) (h15 : ∀ u, F2 15 u = if u = m then tpa t else F 15 u) (h16 : ∀ u, F2 16 u = if u = m then ((tor t).length : Int) else F 16 u) (h17 : ∀ i, F2 17 i = if 13 * m ≤ i ∧ i < 13 * m + (tor t).length then (((tor t).getD (i - 13 * m) 0 : Nat) : Int) else F 17 i) : yWr F2 (ts ++ [t]) := by
  intro u hu
  rw [List.length_append, List.length_singleton] at hu
  rw [sw_snoc, h12, h13, h14, h15, h16]
  by_cases c : u = ts.length
  · rw [if_pos c, if_pos (by omega), if_pos (by omega), if_pos (by omega), if_pos (by omega), if_pos (by omega)]
    refine ⟨⟨rfl, rfl, rfl, rfl, rfl⟩, fun j hj => ?_⟩
    rw [h17, if_pos (by omega), show 13 * u + j - 13 * m = j by omega]
  · rw [if_neg c, if_neg (by omega), if_neg (by omega), if_neg (by omega), if_neg (by omega), if_neg (by omega)]
    have x := w u (by omega)
    refine ⟨x.1, fun j hj => ?_⟩
    have := hl u (by omega)
    rw [h17, if_neg (by omega)]
    exact x.2 j hj
section
variable {h h2 h3 : zH} {F F2 F3 : Nat → Nat → Int} {J : Nat → Nat → Nat} {V V2 V3 : Nat → Int} {P : Nat → Nat → Option Nat} {bk : yB} {co wi ap : Int} {ms : yF} {D : List yQ}
set_option maxRecDepth 100000 in
theorem ynt_len {bk : yB} {ms : yF} (hm : yokF ms) (co wi : Int) (i sp : Nat) (en : Int) : (tor (ynt co wi bk ms i sp en)).length ≤ 13 ∧ tre (ynt co wi bk ms i sp en) = tor (ynt co wi bk ms i sp en) ∧ tfi (ynt co wi bk ms i sp en) = i ∧ tsp (ynt co wi bk ms i sp en) = sp := by
  unfold ynt
  split
  · refine ⟨?_, rfl, rfl, rfl⟩
    show (ypw (ms.getD i [])).length ≤ 13
    rw [ypw_len]
    have := (ywd_ok hm (i : Int)).2
    rw [ywd_nat] at this
    omega
  · refine ⟨?_, rfl, rfl, rfl⟩
    show (ycw _).length ≤ 13
    unfold ycw
    simp
set_option maxRecDepth 100000 in
theorem c_write_l (ok : yok bk ms D) (hm0 : yokF ms) : ∀ (f i : Nat) (ts : List yT) (h : zH) (F : Nat → Nat → Int) (V : Nat → Int) (y : zV), ms.length ≤ i + f → i ≤ ms.length → ts.length ≤ i → zKH h F J V P → rs (F 5) co wi ap → rb (V 0) (F 7) (J 8) bk → rm (V 2) (J 11) ms → V 1 = ts.length → yWr F ts → (∀ u, u < ts.length → (tor (sw ts u)).length ≤ 13) → (∀ j, j < 156 → 0 ≤ F 17 j ∧ F 17 j < 26) → (∀ j, j < ms.length → F 29 j = ((D.getD j yq0).2.2.1 : Int) ∧ F 30 j = (D.getD j yq0).2.2.2) → ∀ (Q : zQ), (∀ h2 F2 V2 x y, zKH h2 F2 J V2 P → yfw h F V h2 F2 V2 → yWr F2 (ts ++ yns co wi bk ms D f i) → V2 1 = ((ts ++ yns co wi bk ms D f i).length : Int) → (∀ j, j < 156 → 0 ≤ F2 17 j ∧ F2 17 j < 26) → Go 50 196 [vR 9, vR 4, vR 26, vI x, y] [] h2 Q) → Go 50 7 [vR 9, vR 4, vR 26, vI i, y] [] h Q := by
  intro f
  induction f with
  | zero =>
    intro i ts h F V y hf hi ht k hs hb hm hV hw hlen hl hD Q hQ
    obtain rfl : i = ms.length := by omega
    have l12 := hm.1.2
    have v2 : V 2 = ms.length := hm.1.1
    have c3 := hQ h F V ms.length y k ⟨⟨fun _ _ => rfl, fun _ _ => rfl⟩, fun _ _ => rfl, rfl⟩ (by unfold yns; rw [List.append_nil]; exact hw) (by unfold yns; rw [List.append_nil]; exact hV) hl
    refine Go_on (fun p => p == 196) 400 ?_; simp only [Ge_s, eM_s, zct_0, zct_I, zct_P, zct_J, eX_iconst, eX_ldc2w, eX_iload, eX_lload, eX_aload, eX_istore, eX_lstore, eX_astore, eX_iinc, eX_iadd, eX_isub, eX_imul, eX_idiv, eX_irem, eX_iand, eX_ishl, eX_ishr, eX_ixor, eX_ineg, eX_dupx2, eX_pop2, eX_land, eX_lor, eX_lshl, eX_lushr, eX_lcmp, eX_i2l, eX_l2i, eX_dup, eX_dup2, eX_ifCond, eX_ificmp, eX_goto, eX_ifnonnull, eX_tableswitch, eX_invokeinterface, eX_multianewarray, eX_getstatic, eX_iaload, eX_laload, eX_baload, eX_aaload, eX_iastore, eX_bastore, eX_lastore, eX_aastore, eX_arraylength, eX_new, eX_newarray, eX_anewarray, eX_invokevirtual, eX_invokestatic, eX_invokespecial, eX_pop, eX_invokedynamic, eX_ireturn, eX_freturn, eX_lreturn, eX_return, eI_s, eJ_s, eP_s, eSI_s, eSJ_s, eSP_s, eInc_s, eAdd_s, eSub_s, eMul_s, eDiv_s, eRem_s, eAnd_s, eXor_s, eNeg_s, eIshl_s, eIshr_s, eDx2_s, ePo2_s, zan_31, zan_255, zan_1, zan_15, zan_m, eLand_s, eLor_s, eLshl_s, eLushr_s, eLcmp_s, eI2l_s, eL2i_s, eDup_s, eDup2_s, eIf_s, eIc_s, eBr_eq, eBr_ne, eBr_lt, eBr_ge, eBr_gt, eBr_le, eNn_s, eNn_n, eG3_s, eG2_s, eGf_s, eP2_s, ePf_s, eAI2_s, eAZ2_s, eAJ2_s, eAQ2_s, eAI_s, eAZ_s, eAJ_s, eAQ_s, eXI2_s, eXZ2_s, eXJ2_s, eXQ2_s, eXI_s, eXZ_s, eXJ_s, eXQ_s, eL2_s, eLn_s, eNa_i, eNa_z, eNa_j, eNq_s, eK_s, eK_n, eR2_s, eRv_s, eRi_s, eCv_s, eCs_s, eCi_s, ePop_s, eMx_s, eMn_s, eCp_s, eCp2_i, eCp2_j, eJd_1, eJd_2, eJd_3, eRI_s, eRZ_s, eRJ_s, eRV_s, zsg_s, zsg_n, zsg_c, List.set_set, Option.map_some, ne_eq, not_false_eq_true, zfit_0, zfit_1, zfit_12, zkd, ↓reduceIte, zc1_I, zc1_P, zset1, zset2, zclr, List.getElem?_cons_zero, List.getElem?_cons_succ, List.set_cons_zero, List.set_cons_succ, List.length_cons, List.length_nil, List.take_succ_cons, List.take_zero, List.drop_succ_cons, List.drop_zero, List.reverse_cons, List.reverse_nil, List.nil_append, List.cons_append, Option.toList_some, Option.toList_none, Nat.reduceAdd, Nat.reduceSub, Nat.reduceLeDiff, Nat.reduceBEq, Nat.reduceEqDiff, Int.reduceToNat, Bool.or_false, Bool.false_or, Bool.or_true, Bool.true_or, Bool.false_eq_true, if_true, if_false, ite_true, ite_false, and_true, true_and, and_self, reduceCtorEq, Int.reduceLT, Int.reduceLE, Int.reduceNeg, Int.reduceAdd, Int.reduceSub, Int.reduceMul, Nat.le_refl, or_true, true_or, or_self, Int.reduceEq, za_50, kh_9 k, kh_10 k, v2, Int.lt_irrefl]
    ((try unfold zr); (try unfold zix); (repeat' first | exact trivial | assumption | (with_reducible rfl) | omega | (refine And.intro ?_ ?_)))
  | succ f ih =>
    intro i ts h F V y hf hi ht k hs hb hm hV hw hlen hl hD Q hQ
    have l12 := hm.1.2
    have v2 : V 2 = ms.length := hm.1.1
    by_cases c : i < ms.length
    · have e1 : (i : Int) < ms.length := by omega
      have hDi := hD i c
      have oki := ok i c
      have hns : yns co wi bk ms D (f + 1) i = ynt co wi bk ms i (D.getD i yq0).2.2.1 (D.getD i yq0).2.2.2 :: yns co wi bk ms D f (i + (D.getD i yq0).2.2.1) := by
        show (if i < ms.length then _ else _) = _
        rw [if_pos c]
      rw [hns] at hQ
      generalize (D.getD i yq0).2.2.1 = sp at *
      generalize (D.getD i yq0).2.2.2 = en at *
      have b30 := c_atN (kh_30 k) (by omega) i (by omega)
      rw [hDi.2] at b30
      have b12 := c_layN (v := (i : Int)) (kh_12 k) (by omega) (by omega) ts.length (by omega)
      have k1 := ks_12 k (va_up (F 12) ts.length (i : Int))
      have b29 := c_atN (kh_29 k1) (by omega) i (by omega)
      have e29 : uF F 12 (va_up (F 12) ts.length (i : Int)) 29 i = sp := hDi.1
      rw [e29] at b29
      have g13 : (h.set 12 (aI 12 (va_up (F 12) ts.length (i : Int))))[13]? = some (aI 12 (F 13)) := by have x := kh_13 k1; exact x
      have b13 := c_layN (v := (sp : Int)) g13 (by omega) (by omega) ts.length (by omega)
      have k2 := ks_13 k1 (va_up (F 13) ts.length (sp : Int))
      have g16 : ((h.set 12 (aI 12 (va_up (F 12) ts.length (i : Int)))).set 13 (aI 12 (va_up (F 13) ts.length (sp : Int))))[16]? = some (aI 12 (F 16)) := by have x := kh_16 k2; exact x
      have b16 := c_layN (v := 0) g16 (by omega) (by omega) ts.length (by omega)
      have k3 := ks_16 k2 (va_up (F 16) ts.length 0)
      have nl := ynt_len (bk := bk) hm0 co wi i sp en
      -- what comes behind 168
      have step : ∀ h4 F4, zKH h4 F4 J V P → yfw (((h.set 12 (aI 12 (va_up (F 12) ts.length (i : Int)))).set 13 (aI 12 (va_up (F 13) ts.length (sp : Int)))).set 16 (aI 12 (va_up (F 16) ts.length 0))) (uF (uF (uF F 12 (va_up (F 12) ts.length (i : Int))) 13 (va_up (F 13) ts.length (sp : Int))) 16 (va_up (F 16) ts.length 0)) V h4 F4 V → yW1 (uF (uF (uF F 12 (va_up (F 12) ts.length (i : Int))) 13 (va_up (F 13) ts.length (sp : Int))) 16 (va_up (F 16) ts.length 0)) F4 ts.length (tco (ynt co wi bk ms i sp en)) (tpa (ynt co wi bk ms i sp en)) (tor (ynt co wi bk ms i sp en)) → (∀ x ∈ tor (ynt co wi bk ms i sp en), x < 26) → Go 50 168 [vR 9, vR 4, vR 26, vI i, vI en] [] h4 Q := by
        intro h4 F4 k4 fw w1 r26
        obtain ⟨⟨w12, w13⟩, w14, w15, w16, w17⟩ := w1
        have f29 : F4 29 = F 29 := fw.1.1 29 (by omega)
        refine c_write_168 k4 ts.length i sp (vI en) hV ⟨by rw [f29]; exact hDi.1, by omega⟩ (by omega) Q ?_
        have k5 := ks_9 k4 ((ts.length : Int) + 1)
        have e5 : F4 5 = F 5 := fw.1.1 5 (by omega)
        have e7 : F4 7 = F 7 := fw.1.1 7 (by omega)
        have e30 : F4 30 = F 30 := fw.1.1 30 (by omega)
        have fw5 : yfw h F V (h4.set 9 (oO 7 [vR 10, vR 12, vR 13, vR 14, vR 15, vR 16, vR 17, vR 18, vI ((ts.length : Int) + 1)])) F4 (uV V 1 ((ts.length : Int) + 1)) := by
          refine ⟨⟨fun t ht => (fw.1.1 t ht).trans ?_, fun t ht => uV_out ht⟩, fun t ht => (zsg_n (by omega)).trans ((fw.2.1 t ht).trans ?_), ?_⟩
          · rw [uF_out (by omega), uF_out (by omega), uF_out (by omega)]
          · rw [zsg_n (by omega), zsg_n (by omega), zsg_n (by omega)]
          · rw [List.length_set, fw.2.2]; simp only [List.length_set]
        refine ih (i + sp) (ts ++ [ynt co wi bk ms i sp en]) _ F4 _ (vI en) (by omega) (by omega) (by rw [List.length_append, List.length_singleton]; omega) k5 (by rw [e5]; exact hs) (by rw [e7]; exact hb) hm (by rw [List.length_append, List.length_singleton]; rfl) ?_ ?_ ?_ (by rw [f29, e30]; exact hD) Q ?_
        · refine yWr_snoc hlen hw _ ts.length rfl (fun u => ?_) (fun u => ?_) (fun u => (w14 u).trans rfl) (fun u => (w15 u).trans rfl) (fun u => (w16 u).trans ?_) (fun t => (w17 t).trans rfl)
          · rw [w12, nl.2.2.1]; exact y_up _ _ _ _
          · rw [w13, nl.2.2.2]; exact y_up _ _ _ _
          · by_cases x : u = ts.length
            · rw [if_pos x, if_pos x]
            · rw [if_neg x, if_neg x]
              exact (y_up _ _ _ _).trans (if_neg x)
        · intro u hu
          rw [List.length_append, List.length_singleton] at hu
          rw [sw_snoc]
          split
          · exact nl.1
          · exact hlen u (by omega)
        · intro j hj
          rw [w17]
          split
          · have := y_lt26 r26 (j - 13 * ts.length)
            omega
          · exact hl j hj
        · intro h2 F2 V2 x y k2 fw2 hw2 hV2 hl2
          rw [List.append_assoc] at hw2 hV2
          exact hQ h2 F2 V2 x y k2 (fw5.tr fw2) hw2 hV2 hl2
      have h0 : uF (uF (uF F 12 (va_up (F 12) ts.length (i : Int))) 13 (va_up (F 13) ts.length (sp : Int))) 16 (va_up (F 16) ts.length 0) 16 ts.length = 0 := (y_up _ _ _ _).trans (if_pos rfl)
      have c71 : Go 50 71 [vR 9, vR 4, vR 26, vI i, vI en] [] (((h.set 12 (aI 12 (va_up (F 12) ts.length (i : Int)))).set 13 (aI 12 (va_up (F 13) ts.length (sp : Int)))).set 16 (aI 12 (va_up (F 16) ts.length 0))) Q := by
        by_cases c6 : en = -6
        · subst c6
          refine c_write_P k3 hs hm ts.length i c ⟨hV, by omega⟩ h0 Q (fun h4 F4 k4 fw w1 => step h4 F4 k4 fw w1 ?_)
          have := (ywd_ok hm0 (i : Int)).1
          rw [ywd_nat] at this
          exact ypw_r _ this
        · obtain ⟨e, rfl⟩ : ∃ e : Nat, en = e := ⟨en.toNat, by omega⟩
          have he : e < bk.length := by omega
          have et : ynt co wi bk ms i sp (e : Int) = (i, sp, 1, co, ycw (bcd bk e), ycw (bcd bk e)) := if_neg c6
          rw [et] at step
          exact c_write_C k3 hs hb ts.length i e (by omega) he ⟨hV, by omega⟩ h0 Q (fun h4 F4 k4 fw w1 => step h4 F4 k4 fw w1 (ycw_r _))
      refine Go_on (fun p => p == 71) 400 ?_; simp only [Ge_s, eM_s, zct_0, zct_I, zct_P, zct_J, eX_iconst, eX_ldc2w, eX_iload, eX_lload, eX_aload, eX_istore, eX_lstore, eX_astore, eX_iinc, eX_iadd, eX_isub, eX_imul, eX_idiv, eX_irem, eX_iand, eX_ishl, eX_ishr, eX_ixor, eX_ineg, eX_dupx2, eX_pop2, eX_land, eX_lor, eX_lshl, eX_lushr, eX_lcmp, eX_i2l, eX_l2i, eX_dup, eX_dup2, eX_ifCond, eX_ificmp, eX_goto, eX_ifnonnull, eX_tableswitch, eX_invokeinterface, eX_multianewarray, eX_getstatic, eX_iaload, eX_laload, eX_baload, eX_aaload, eX_iastore, eX_bastore, eX_lastore, eX_aastore, eX_arraylength, eX_new, eX_newarray, eX_anewarray, eX_invokevirtual, eX_invokestatic, eX_invokespecial, eX_pop, eX_invokedynamic, eX_ireturn, eX_freturn, eX_lreturn, eX_return, eI_s, eJ_s, eP_s, eSI_s, eSJ_s, eSP_s, eInc_s, eAdd_s, eSub_s, eMul_s, eDiv_s, eRem_s, eAnd_s, eXor_s, eNeg_s, eIshl_s, eIshr_s, eDx2_s, ePo2_s, zan_31, zan_255, zan_1, zan_15, zan_m, eLand_s, eLor_s, eLshl_s, eLushr_s, eLcmp_s, eI2l_s, eL2i_s, eDup_s, eDup2_s, eIf_s, eIc_s, eBr_eq, eBr_ne, eBr_lt, eBr_ge, eBr_gt, eBr_le, eNn_s, eNn_n, eG3_s, eG2_s, eGf_s, eP2_s, ePf_s, eAI2_s, eAZ2_s, eAJ2_s, eAQ2_s, eAI_s, eAZ_s, eAJ_s, eAQ_s, eXI2_s, eXZ2_s, eXJ2_s, eXQ2_s, eXI_s, eXZ_s, eXJ_s, eXQ_s, eL2_s, eLn_s, eNa_i, eNa_z, eNa_j, eNq_s, eK_s, eK_n, eR2_s, eRv_s, eRi_s, eCv_s, eCs_s, eCi_s, ePop_s, eMx_s, eMn_s, eCp_s, eCp2_i, eCp2_j, eJd_1, eJd_2, eJd_3, eRI_s, eRZ_s, eRJ_s, eRV_s, zsg_s, zsg_n, zsg_c, List.set_set, Option.map_some, ne_eq, not_false_eq_true, zfit_0, zfit_1, zfit_12, zkd, ↓reduceIte, zc1_I, zc1_P, zset1, zset2, zclr, List.getElem?_cons_zero, List.getElem?_cons_succ, List.set_cons_zero, List.set_cons_succ, List.length_cons, List.length_nil, List.take_succ_cons, List.take_zero, List.drop_succ_cons, List.drop_zero, List.reverse_cons, List.reverse_nil, List.nil_append, List.cons_append, Option.toList_some, Option.toList_none, Nat.reduceAdd, Nat.reduceSub, Nat.reduceLeDiff, Nat.reduceBEq, Nat.reduceEqDiff, Int.reduceToNat, Bool.or_false, Bool.false_or, Bool.or_true, Bool.true_or, Bool.false_eq_true, if_true, if_false, ite_true, ite_false, and_true, true_and, and_self, reduceCtorEq, Int.reduceLT, Int.reduceLE, Int.reduceNeg, Int.reduceAdd, Int.reduceSub, Int.reduceMul, Nat.le_refl, or_true, true_or, or_self, Int.reduceEq, za_50, zf_96, zf_98, kh_9 k, kh_10 k, kh_26 k, kh_9 k1, kh_26 k1, kh_9 k2, hV, v2, e1, b30, b12, b29, b13, b16]
      ((try unfold zr); (try unfold zix); (repeat' first | exact trivial | assumption | (with_reducible rfl) | omega | (refine And.intro ?_ ?_)))
    · obtain rfl : i = ms.length := by omega
      have hns : yns co wi bk ms D (f + 1) ms.length = [] := by
        show (if ms.length < ms.length then _ else _) = _
        rw [if_neg c]
      rw [hns] at hQ
      have c3 := hQ h F V ms.length y k ⟨⟨fun _ _ => rfl, fun _ _ => rfl⟩, fun _ _ => rfl, rfl⟩ (by rw [List.append_nil]; exact hw) (by rw [List.append_nil]; exact hV) hl
      refine Go_on (fun p => p == 196) 400 ?_; simp only [Ge_s, eM_s, zct_0, zct_I, zct_P, zct_J, eX_iconst, eX_ldc2w, eX_iload, eX_lload, eX_aload, eX_istore, eX_lstore, eX_astore, eX_iinc, eX_iadd, eX_isub, eX_imul, eX_idiv, eX_irem, eX_iand, eX_ishl, eX_ishr, eX_ixor, eX_ineg, eX_dupx2, eX_pop2, eX_land, eX_lor, eX_lshl, eX_lushr, eX_lcmp, eX_i2l, eX_l2i, eX_dup, eX_dup2, eX_ifCond, eX_ificmp, eX_goto, eX_ifnonnull, eX_tableswitch, eX_invokeinterface, eX_multianewarray, eX_getstatic, eX_iaload, eX_laload, eX_baload, eX_aaload, eX_iastore, eX_bastore, eX_lastore, eX_aastore, eX_arraylength, eX_new, eX_newarray, eX_anewarray, eX_invokevirtual, eX_invokestatic, eX_invokespecial, eX_pop, eX_invokedynamic, eX_ireturn, eX_freturn, eX_lreturn, eX_return, eI_s, eJ_s, eP_s, eSI_s, eSJ_s, eSP_s, eInc_s, eAdd_s, eSub_s, eMul_s, eDiv_s, eRem_s, eAnd_s, eXor_s, eNeg_s, eIshl_s, eIshr_s, eDx2_s, ePo2_s, zan_31, zan_255, zan_1, zan_15, zan_m, eLand_s, eLor_s, eLshl_s, eLushr_s, eLcmp_s, eI2l_s, eL2i_s, eDup_s, eDup2_s, eIf_s, eIc_s, eBr_eq, eBr_ne, eBr_lt, eBr_ge, eBr_gt, eBr_le, eNn_s, eNn_n, eG3_s, eG2_s, eGf_s, eP2_s, ePf_s, eAI2_s, eAZ2_s, eAJ2_s, eAQ2_s, eAI_s, eAZ_s, eAJ_s, eAQ_s, eXI2_s, eXZ2_s, eXJ2_s, eXQ2_s, eXI_s, eXZ_s, eXJ_s, eXQ_s, eL2_s, eLn_s, eNa_i, eNa_z, eNa_j, eNq_s, eK_s, eK_n, eR2_s, eRv_s, eRi_s, eCv_s, eCs_s, eCi_s, ePop_s, eMx_s, eMn_s, eCp_s, eCp2_i, eCp2_j, eJd_1, eJd_2, eJd_3, eRI_s, eRZ_s, eRJ_s, eRV_s, zsg_s, zsg_n, zsg_c, List.set_set, Option.map_some, ne_eq, not_false_eq_true, zfit_0, zfit_1, zfit_12, zkd, ↓reduceIte, zc1_I, zc1_P, zset1, zset2, zclr, List.getElem?_cons_zero, List.getElem?_cons_succ, List.set_cons_zero, List.set_cons_succ, List.length_cons, List.length_nil, List.take_succ_cons, List.take_zero, List.drop_succ_cons, List.drop_zero, List.reverse_cons, List.reverse_nil, List.nil_append, List.cons_append, Option.toList_some, Option.toList_none, Nat.reduceAdd, Nat.reduceSub, Nat.reduceLeDiff, Nat.reduceBEq, Nat.reduceEqDiff, Int.reduceToNat, Bool.or_false, Bool.false_or, Bool.or_true, Bool.true_or, Bool.false_eq_true, if_true, if_false, ite_true, ite_false, and_true, true_and, and_self, reduceCtorEq, Int.reduceLT, Int.reduceLE, Int.reduceNeg, Int.reduceAdd, Int.reduceSub, Int.reduceMul, Nat.le_refl, or_true, true_or, or_self, Int.reduceEq, za_50, kh_9 k, kh_10 k, v2, Int.lt_irrefl]
      ((try unfold zr); (try unfold zix); (repeat' first | exact trivial | assumption | (with_reducible rfl) | omega | (refine And.intro ?_ ?_)))
end
