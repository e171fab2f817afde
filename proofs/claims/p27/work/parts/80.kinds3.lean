/-! The law: an entry is given another code word, and dropped -/
set_option maxRecDepth 100000 in
theorem yxf_far (bk : yB) (code exc ap : Int) (hap : 1 ≤ ap) : ∀ m : Nat, (ylf bk code exc m = -6 ∨ ap ≤ ylf bk code exc m) ↔ ∀ k : Nat, k < m → ((k : Int) = exc ∨ ap ≤ dsC code (bcd bk k)) := by
  intro m
  induction m with
  | zero => exact ⟨fun _ k hk => absurd hk (by omega), fun _ => Or.inl rfl⟩
  | succ m ih =>
    have r1 := dsC_r code (bcd bk m : Nat)
    have r2 := ylf_ne bk code exc m
    have e3 : ylf bk code exc (m + 1) = if (m : Int) = exc then ylf bk code exc m else if ylf bk code exc m = -6 then dsC code (bcd bk m : Nat) else if dsC code (bcd bk m : Nat) < ylf bk code exc m then dsC code (bcd bk m : Nat) else ylf bk code exc m := rfl
    have e4 : (∀ k : Nat, k < m + 1 → ((k : Int) = exc ∨ ap ≤ dsC code (bcd bk k))) ↔ ((∀ k : Nat, k < m → ((k : Int) = exc ∨ ap ≤ dsC code (bcd bk k))) ∧ ((m : Int) = exc ∨ ap ≤ dsC code (bcd bk m))) := by
      constructor
      · intro h; exact ⟨fun k hk => h k (by omega), h m (by omega)⟩
      · rintro ⟨h1, h2⟩ k hk
        by_cases c : k = m
        · rw [c]; exact h2
        · exact h1 k (by omega)
    rw [e4, ← ih, e3]
    by_cases c : (m : Int) = exc
    · rw [if_pos c]
      exact ⟨fun h => ⟨h, Or.inl c⟩, fun h => h.1⟩
    · rw [if_neg c]
      by_cases c2 : ylf bk code exc m = -6
      · rw [if_pos c2]
        constructor
        · intro h; exact ⟨Or.inl c2, Or.inr (by omega)⟩
        · intro h; exact Or.inr (h.2.resolve_left c)
      · rw [if_neg c2]
        by_cases c3 : dsC code (bcd bk m : Nat) < ylf bk code exc m
        · rw [if_pos c3]
          constructor
          · intro h; exact ⟨Or.inr (by omega), Or.inr (by omega)⟩
          · intro h; exact Or.inr (h.2.resolve_left c)
        · rw [if_neg c3]
          constructor
          · intro h; exact ⟨h, Or.inr (by omega)⟩
          · intro h; exact h.1
set_option maxRecDepth 100000 in
theorem lfr_all (bk : yB) (ap c but : Int) (hap : 1 ≤ ap) : yal (lfr bk ap c but) 0 bk.length = true ↔ (ylf bk c but bk.length = -6 ∨ ap ≤ ylf bk c but bk.length) := by
  rw [yxf_far bk c but ap hap, yal_iff]
  constructor
  · intro h k hk
    exact decide_eq_true_iff.1 (h k (by omega) (by omega))
  · intro h k _ hk
    exact decide_eq_true (h k (by omega))
set_option maxRecDepth 100000 in
theorem lb_rc {en : Nat → Int} {bk : yB} (hb : lb en bk) {e code : Nat} (he : e < bk.length) (hc : code < 1296) : lb (va_up en (5 * e) (code : Int)) (brc bk e code) := by
  have el : (brc bk e code).length = bk.length := by unfold brc; rw [List.length_set]
  refine ⟨by rw [el]; exact hb.1, fun i hi => ?_⟩
  rw [el] at hi
  obtain ⟨a1, a2⟩ := brc_at bk e code i he
  obtain ⟨b1, b2, b3, b4⟩ := hb.2 i hi
  rw [a1, a2]
  refine ⟨?_, ?_, b3, fun k hk => ?_⟩
  · rw [y_up]
    by_cases c : i = e
    · rw [if_pos (by omega), if_pos c]; exact ⟨rfl, hc⟩
    · rw [if_neg (by omega), if_neg c]; exact b1
  · rw [y_up, if_neg (by omega)]; exact b2
  · rw [y_up, if_neg (by omega)]; exact b4 k hk
set_option maxRecDepth 100000 in
theorem va_up_id (f : Nat → Int) (i : Nat) : va_up f i (f i) = f := by
  funext j
  rw [y_up]
  by_cases c : j = i
  · rw [if_pos c, c]
  · rw [if_neg c]
section
variable {L : Nat} {xs : Nat → Int32} {A : yA} {q en me se : Nat → Int} {h : zH}
def hhE (h : zH) (f : Nat → Int) : zH := h.set 35 (aI 50 f)
set_option maxRecDepth 100000 in
theorem hE_s (f g : Nat → Int) : (hhE h f).set 35 (aI 50 g) = hhE h g := by unfold hhE; rw [List.set_set]
set_option maxRecDepth 100000 in
theorem hE_35 (h35 : h[35]? = some (aI 50 en)) (f : Nat → Int) : (hhE h f)[35]? = some (aI 50 f) := by unfold hhE; rw [zsg_s, h35]; rfl
set_option maxRecDepth 100000 in
theorem hE_n {i : Nat} (hi : i ≠ 35) (f : Nat → Int) : (hhE h f)[i]? = h[i]? := zsg_n (fun z => hi z.symm)
set_option maxRecDepth 100000 in
theorem k_shift (h34 : h[34]? = some (aI 7 q)) (h35 : h[35]? = some (aI 50 en)) (n e : Nat) (he : e < n) (hn : n ≤ 10) (q3 : q 3 = n) (tu z : Int) (z10 z11 z12 : Int) (x14 x15 : zV) (Q : zQ) (hQ : ∀ f x, (∀ i, f i = if 5 * e ≤ i ∧ i < 5 * (n - 1) then en (i + 5) else en i) → Go 120 983 [vR 2, vR 3, vR 34, vR 35, vR 36, vR 37, vR 38, vI tu, vI z, vI 7, vI z10, vI z11, vI z12, x, x14, x15] [] (hhE h f) Q) : ∀ (d j : Nat) (f : Nat → Int), j + d = 5 * (n - 1) → 5 * e ≤ j → (∀ i, f i = if 5 * e ≤ i ∧ i < j then en (i + 5) else en i) → Go 120 955 [vR 2, vR 3, vR 34, vR 35, vR 36, vR 37, vR 38, vI tu, vI z, vI 7, vI z10, vI z11, vI z12, vI j, x14, x15] [] (hhE h f) Q := by
  have k34 := fun f => (hE_n (h := h) (i := 34) (by omega) f).trans h34
  have k35 := fun f => hE_35 (h := h) h35 f
  have ks := fun f g => hE_s (h := h) f g
  intro d
  induction d with
  | zero =>
    intro j f hj he2 hf
    obtain rfl : j = 5 * (n - 1) := by omega
    have c3 := hQ f (vI ((5 * (n - 1) : Nat) : Int)) hf
    have n0 : ¬ ((5 * (n - 1) : Nat) : Int) + 5 < 5 * (n : Int) := by omega
    refine Go_on (fun p => p == 983) 400 ?_; simp only [Ge_s, eM_s, zct_0, zct_I, zct_P, zct_J, eX_iconst, eX_ldc2w, eX_iload, eX_lload, eX_aload, eX_istore, eX_lstore, eX_astore, eX_iinc, eX_iadd, eX_isub, eX_imul, eX_idiv, eX_irem, eX_iand, eX_ishl, eX_ishr, eX_ixor, eX_ineg, eX_dupx2, eX_pop2, eX_land, eX_lor, eX_lshl, eX_lushr, eX_lcmp, eX_i2l, eX_l2i, eX_dup, eX_dup2, eX_ifCond, eX_ificmp, eX_goto, eX_ifnonnull, eX_tableswitch, eX_invokeinterface, eX_multianewarray, eX_getstatic, eX_iaload, eX_laload, eX_baload, eX_aaload, eX_iastore, eX_bastore, eX_lastore, eX_aastore, eX_arraylength, eX_new, eX_newarray, eX_anewarray, eX_invokevirtual, eX_invokestatic, eX_invokespecial, eX_pop, eX_invokedynamic, eX_ireturn, eX_freturn, eX_lreturn, eX_return, eI_s, eJ_s, eP_s, eSI_s, eSJ_s, eSP_s, eInc_s, eAdd_s, eSub_s, eMul_s, eDiv_s, eRem_s, eAnd_s, eXor_s, eNeg_s, eIshl_s, eIshr_s, eDx2_s, ePo2_s, zan_31, zan_255, zan_1, zan_15, zan_m, eLand_s, eLor_s, eLshl_s, eLushr_s, eLcmp_s, eI2l_s, eL2i_s, eDup_s, eDup2_s, eIf_s, eIc_s, eBr_eq, eBr_ne, eBr_lt, eBr_ge, eBr_gt, eBr_le, eNn_s, eNn_n, eG3_s, eG2_s, eGf_s, eP2_s, ePf_s, eAI2_s, eAZ2_s, eAJ2_s, eAQ2_s, eAI_s, eAZ_s, eAJ_s, eAQ_s, eXI2_s, eXZ2_s, eXJ2_s, eXQ2_s, eXI_s, eXZ_s, eXJ_s, eXQ_s, eL2_s, eLn_s, eNa_i, eNa_z, eNa_j, eNq_s, eK_s, eK_n, eR2_s, eRv_s, eRi_s, eCv_s, eCs_s, eCi_s, ePop_s, eMx_s, eMn_s, eCp_s, eCp2_i, eCp2_j, eJd_1, eJd_2, eJd_3, eRI_s, eRZ_s, eRJ_s, eRV_s, zsg_s, zsg_n, zsg_c, List.set_set, Option.map_some, ne_eq, not_false_eq_true, zfit_0, zfit_1, zfit_12, zkd, ↓reduceIte, zc1_I, zc1_P, zset1, zset2, zclr, List.getElem?_cons_zero, List.getElem?_cons_succ, List.set_cons_zero, List.set_cons_succ, List.length_cons, List.length_nil, List.take_succ_cons, List.take_zero, List.drop_succ_cons, List.drop_zero, List.reverse_cons, List.reverse_nil, List.nil_append, List.cons_append, Option.toList_some, Option.toList_none, Nat.reduceAdd, Nat.reduceSub, Nat.reduceLeDiff, Nat.reduceBEq, Nat.reduceEqDiff, Int.reduceToNat, Bool.or_false, Bool.false_or, Bool.or_true, Bool.true_or, Bool.false_eq_true, if_true, if_false, ite_true, ite_false, and_true, true_and, and_self, reduceCtorEq, Int.reduceLT, Int.reduceLE, Int.reduceNeg, Int.reduceAdd, Int.reduceSub, Int.reduceMul, Nat.le_refl, or_true, true_or, or_self, Int.reduceEq, za_120_0, za_120_1, za_120_2, za_120_3, za_120_4, za_120_5, k34, q3, n0]
    ((try unfold zr); (try unfold zix); (repeat' first | exact trivial | assumption | (with_reducible rfl) | omega | (refine And.intro ?_ ?_)))
  | succ d ih =>
    intro j f hj he2 hf
    have n0 : (j : Int) + 5 < 5 * (n : Int) := by omega
    have tj : ((j : Int)).toNat = j := Int.toNat_natCast j
    have tj5 : ((j : Int) + 5).toNat = j + 5 := by omega
    have g5 : f (j + 5) = en (j + 5) := by rw [hf, if_neg (by omega)]
    have c3 := ih (j + 1) (va_up f j (en (j + 5))) (by omega) (by omega) (fun i => by
      rw [y_up]
      by_cases c : i = j
      · rw [if_pos c, if_pos (by omega), c]
      · rw [if_neg c, hf]
        by_cases c2 : 5 * e ≤ i ∧ i < j
        · rw [if_pos c2, if_pos (by omega)]
        · rw [if_neg c2, if_neg (by omega)])
    refine Go_on (fun p => p == 955) 400 ?_; simp only [Ge_s, eM_s, zct_0, zct_I, zct_P, zct_J, eX_iconst, eX_ldc2w, eX_iload, eX_lload, eX_aload, eX_istore, eX_lstore, eX_astore, eX_iinc, eX_iadd, eX_isub, eX_imul, eX_idiv, eX_irem, eX_iand, eX_ishl, eX_ishr, eX_ixor, eX_ineg, eX_dupx2, eX_pop2, eX_land, eX_lor, eX_lshl, eX_lushr, eX_lcmp, eX_i2l, eX_l2i, eX_dup, eX_dup2, eX_ifCond, eX_ificmp, eX_goto, eX_ifnonnull, eX_tableswitch, eX_invokeinterface, eX_multianewarray, eX_getstatic, eX_iaload, eX_laload, eX_baload, eX_aaload, eX_iastore, eX_bastore, eX_lastore, eX_aastore, eX_arraylength, eX_new, eX_newarray, eX_anewarray, eX_invokevirtual, eX_invokestatic, eX_invokespecial, eX_pop, eX_invokedynamic, eX_ireturn, eX_freturn, eX_lreturn, eX_return, eI_s, eJ_s, eP_s, eSI_s, eSJ_s, eSP_s, eInc_s, eAdd_s, eSub_s, eMul_s, eDiv_s, eRem_s, eAnd_s, eXor_s, eNeg_s, eIshl_s, eIshr_s, eDx2_s, ePo2_s, zan_31, zan_255, zan_1, zan_15, zan_m, eLand_s, eLor_s, eLshl_s, eLushr_s, eLcmp_s, eI2l_s, eL2i_s, eDup_s, eDup2_s, eIf_s, eIc_s, eBr_eq, eBr_ne, eBr_lt, eBr_ge, eBr_gt, eBr_le, eNn_s, eNn_n, eG3_s, eG2_s, eGf_s, eP2_s, ePf_s, eAI2_s, eAZ2_s, eAJ2_s, eAQ2_s, eAI_s, eAZ_s, eAJ_s, eAQ_s, eXI2_s, eXZ2_s, eXJ2_s, eXQ2_s, eXI_s, eXZ_s, eXJ_s, eXQ_s, eL2_s, eLn_s, eNa_i, eNa_z, eNa_j, eNq_s, eK_s, eK_n, eR2_s, eRv_s, eRi_s, eCv_s, eCs_s, eCi_s, ePop_s, eMx_s, eMn_s, eCp_s, eCp2_i, eCp2_j, eJd_1, eJd_2, eJd_3, eRI_s, eRZ_s, eRJ_s, eRV_s, zsg_s, zsg_n, zsg_c, List.set_set, Option.map_some, ne_eq, not_false_eq_true, zfit_0, zfit_1, zfit_12, zkd, ↓reduceIte, zc1_I, zc1_P, zset1, zset2, zclr, List.getElem?_cons_zero, List.getElem?_cons_succ, List.set_cons_zero, List.set_cons_succ, List.length_cons, List.length_nil, List.take_succ_cons, List.take_zero, List.drop_succ_cons, List.drop_zero, List.reverse_cons, List.reverse_nil, List.nil_append, List.cons_append, Option.toList_some, Option.toList_none, Nat.reduceAdd, Nat.reduceSub, Nat.reduceLeDiff, Nat.reduceBEq, Nat.reduceEqDiff, Int.reduceToNat, Bool.or_false, Bool.false_or, Bool.or_true, Bool.true_or, Bool.false_eq_true, if_true, if_false, ite_true, ite_false, and_true, true_and, and_self, reduceCtorEq, Int.reduceLT, Int.reduceLE, Int.reduceNeg, Int.reduceAdd, Int.reduceSub, Int.reduceMul, Nat.le_refl, or_true, true_or, or_self, Int.reduceEq, za_120_0, za_120_1, za_120_2, za_120_3, za_120_4, za_120_5, k34, k35, ks, q3, n0, tj, tj5, g5]
    ((try unfold zr); (try unfold zix); (repeat' first | exact trivial | assumption | (with_reducible rfl) | omega | (refine And.intro ?_ ?_)))
set_option maxRecDepth 100000 in
theorem k_rec2 (li : LI A q en me se) (w : Wd L xs A q en me se h) (tu z : Int) (Q : zQ) (hN : yNx L xs tu z 7 Q) (e : Nat) (he : e < (sbk (aS A)).length) (z11 z12 : Int) (x13 x14 x15 : zV) : Go 120 922 [vR 2, vR 3, vR 34, vR 35, vR 36, vR 37, vR 38, vI tu, vI z, vI 7, vI e, vI z11, vI z12, x13, x14, x15] [] h Q := by
  obtain ⟨⟨hq, q5, q6⟩, hb, hm, hs⟩ := id li
  obtain ⟨⟨q0, q1, q2, q3, q4⟩, qc, qw, qa⟩ := id hq
  have l10 := hb.1
  have k3 := W_3 w
  have b3 := l_low (h := h) (v := zwr z / 16) (n := 3) (by omega)
  have r3 := low_r (v := zwr z / 16) (n := 3) (by omega)
  by_cases c1 : zwr z / 16 % 2147483648 % 3 = 0
  · have c3 : Ca 64 [vR 3, vI e] h (eK (fun pc ls st h => Go 120 pc ls st h Q) 939 [vR 2, vR 3, vR 34, vR 35, vR 36, vR 37, vR 38, vI tu, vI z, vI 7, vI e, vI z11, vI z12, x13, x14, x15] []) := by
      refine W_call (A2 := (((aS A).1, bdr (sbk (aS A)) e, (aS A).2.2), aP A, ykp (aL A) (aS A), a6 A, a7 A)) w (fun F J V P k c => p_drop k c e he) _ ?_
      intro h2 w2
      rw [eK_s]
      have k34 := W_34 w2
      have k35 := W_35 w2
      have c4 := k_shift k34 k35 (sbk (aS A)).length e he l10 q3 tu z e z11 z12 x14 x15 Q (by
        intro f x hf
        have w3 : Wd L xs _ q f me se (hhE h2 f) := W_s35 w2 f
        have w4 := W_s34 w3 (va_up q 3 ((((sbk (aS A)).length : Nat) : Int) - 1))
        have k34 := W_34 w3
        have bl := bdr_len (sbk (aS A)) e he
        have c5 := hN _ _ (va_up q 3 ((((sbk (aS A)).length : Nat) : Int) - 1)) f me se (vI e) (vI z11) (vI z12) x x14 x15 w4 (by
          refine ⟨⟨⟨⟨q0, q1, q2, ?_, q4⟩, qc, qw, qa⟩, q5, q6⟩, ⟨?_, fun i hi => ?_⟩, hm, hs⟩
          · show (((sbk (aS A)).length : Nat) : Int) - 1 = (((bdr (sbk (aS A)) e).length : Nat) : Int)
            rw [bl]; omega
          · show (bdr (sbk (aS A)) e).length ≤ 10
            rw [bl]; omega
          · have hi : i < (bdr (sbk (aS A)) e).length := hi
            rw [bl] at hi
            show (f (5 * i) = bcd (bdr (sbk (aS A)) e) i ∧ bcd (bdr (sbk (aS A)) e) i < 1296) ∧ (f (5 * i + 1) = (bph (bdr (sbk (aS A)) e) i).length ∧ 1 ≤ (bph (bdr (sbk (aS A)) e) i).length ∧ (bph (bdr (sbk (aS A)) e) i).length ≤ 3) ∧ (∀ u ∈ bph (bdr (sbk (aS A)) e) i, y4 u) ∧ ∀ k, k < (bph (bdr (sbk (aS A)) e) i).length → f (5 * i + 2 + k) = yp ((bph (bdr (sbk (aS A)) e) i).getD k [])
            obtain ⟨a1, a2⟩ := bdr_at (sbk (aS A)) e i
            rw [a1, a2]
            by_cases c : i < e
            · rw [if_pos c]
              obtain ⟨b1, b2, b3, b4⟩ := hb.2 i (by omega)
              refine ⟨?_, ?_, b3, fun k hk => ?_⟩
              · rw [hf, if_neg (by omega)]; exact b1
              · rw [hf, if_neg (by omega)]; exact b2
              · rw [hf, if_neg (by omega)]; exact b4 k hk
            · rw [if_neg c]
              obtain ⟨b1, b2, b3, b4⟩ := hb.2 (i + 1) (by omega)
              refine ⟨?_, ?_, b3, fun k hk => ?_⟩
              · rw [hf, if_pos (by omega), show 5 * i + 5 = 5 * (i + 1) by omega]; exact b1
              · rw [hf, if_pos (by omega), show 5 * i + 1 + 5 = 5 * (i + 1) + 1 by omega]; exact b2
              · rw [hf, if_pos (by omega), show 5 * i + 2 + k + 5 = 5 * (i + 1) + 2 + k by omega]; exact b4 k hk)
        refine Go_on (fun p => p == 990) 400 ?_; simp only [Ge_s, eM_s, zct_0, zct_I, zct_P, zct_J, eX_iconst, eX_ldc2w, eX_iload, eX_lload, eX_aload, eX_istore, eX_lstore, eX_astore, eX_iinc, eX_iadd, eX_isub, eX_imul, eX_idiv, eX_irem, eX_iand, eX_ishl, eX_ishr, eX_ixor, eX_ineg, eX_dupx2, eX_pop2, eX_land, eX_lor, eX_lshl, eX_lushr, eX_lcmp, eX_i2l, eX_l2i, eX_dup, eX_dup2, eX_ifCond, eX_ificmp, eX_goto, eX_ifnonnull, eX_tableswitch, eX_invokeinterface, eX_multianewarray, eX_getstatic, eX_iaload, eX_laload, eX_baload, eX_aaload, eX_iastore, eX_bastore, eX_lastore, eX_aastore, eX_arraylength, eX_new, eX_newarray, eX_anewarray, eX_invokevirtual, eX_invokestatic, eX_invokespecial, eX_pop, eX_invokedynamic, eX_ireturn, eX_freturn, eX_lreturn, eX_return, eI_s, eJ_s, eP_s, eSI_s, eSJ_s, eSP_s, eInc_s, eAdd_s, eSub_s, eMul_s, eDiv_s, eRem_s, eAnd_s, eXor_s, eNeg_s, eIshl_s, eIshr_s, eDx2_s, ePo2_s, zan_31, zan_255, zan_1, zan_15, zan_m, eLand_s, eLor_s, eLshl_s, eLushr_s, eLcmp_s, eI2l_s, eL2i_s, eDup_s, eDup2_s, eIf_s, eIc_s, eBr_eq, eBr_ne, eBr_lt, eBr_ge, eBr_gt, eBr_le, eNn_s, eNn_n, eG3_s, eG2_s, eGf_s, eP2_s, ePf_s, eAI2_s, eAZ2_s, eAJ2_s, eAQ2_s, eAI_s, eAZ_s, eAJ_s, eAQ_s, eXI2_s, eXZ2_s, eXJ2_s, eXQ2_s, eXI_s, eXZ_s, eXJ_s, eXQ_s, eL2_s, eLn_s, eNa_i, eNa_z, eNa_j, eNq_s, eK_s, eK_n, eR2_s, eRv_s, eRi_s, eCv_s, eCs_s, eCi_s, ePop_s, eMx_s, eMn_s, eCp_s, eCp2_i, eCp2_j, eJd_1, eJd_2, eJd_3, eRI_s, eRZ_s, eRJ_s, eRV_s, zsg_s, zsg_n, zsg_c, List.set_set, Option.map_some, ne_eq, not_false_eq_true, zfit_0, zfit_1, zfit_12, zkd, ↓reduceIte, zc1_I, zc1_P, zset1, zset2, zclr, List.getElem?_cons_zero, List.getElem?_cons_succ, List.set_cons_zero, List.set_cons_succ, List.length_cons, List.length_nil, List.take_succ_cons, List.take_zero, List.drop_succ_cons, List.drop_zero, List.reverse_cons, List.reverse_nil, List.nil_append, List.cons_append, Option.toList_some, Option.toList_none, Nat.reduceAdd, Nat.reduceSub, Nat.reduceLeDiff, Nat.reduceBEq, Nat.reduceEqDiff, Int.reduceToNat, Bool.or_false, Bool.false_or, Bool.or_true, Bool.true_or, Bool.false_eq_true, if_true, if_false, ite_true, ite_false, and_true, true_and, and_self, reduceCtorEq, Int.reduceLT, Int.reduceLE, Int.reduceNeg, Int.reduceAdd, Int.reduceSub, Int.reduceMul, Nat.le_refl, or_true, true_or, or_self, Int.reduceEq, za_120_0, za_120_1, za_120_2, za_120_3, za_120_4, za_120_5, k34, q3]
        ((try unfold zr); (try unfold zix); (repeat' first | exact trivial | assumption | (with_reducible rfl) | omega | (refine And.intro ?_ ?_)))) (5 * (sbk (aS A)).length - 5 - 5 * e) (5 * e) en (by omega) (Nat.le_refl _) (fun i => by rw [if_neg (by omega)])
      have e5 : ((5 * e : Nat) : Int) = 5 * (e : Int) := by omega
      have hid : hhE h2 en = h2 := zsg_i k35
      rw [e5, hid] at c4
      have ea : ((((sbk (aS A)).length : Nat) : Int) - 1 = (((sbk (aS A)).length : Nat) : Int) - 1) = True := eq_true rfl
      refine Go_on (fun p => p == 955) 400 ?_; simp only [Ge_s, eM_s, zct_0, zct_I, zct_P, zct_J, eX_iconst, eX_ldc2w, eX_iload, eX_lload, eX_aload, eX_istore, eX_lstore, eX_astore, eX_iinc, eX_iadd, eX_isub, eX_imul, eX_idiv, eX_irem, eX_iand, eX_ishl, eX_ishr, eX_ixor, eX_ineg, eX_dupx2, eX_pop2, eX_land, eX_lor, eX_lshl, eX_lushr, eX_lcmp, eX_i2l, eX_l2i, eX_dup, eX_dup2, eX_ifCond, eX_ificmp, eX_goto, eX_ifnonnull, eX_tableswitch, eX_invokeinterface, eX_multianewarray, eX_getstatic, eX_iaload, eX_laload, eX_baload, eX_aaload, eX_iastore, eX_bastore, eX_lastore, eX_aastore, eX_arraylength, eX_new, eX_newarray, eX_anewarray, eX_invokevirtual, eX_invokestatic, eX_invokespecial, eX_pop, eX_invokedynamic, eX_ireturn, eX_freturn, eX_lreturn, eX_return, eI_s, eJ_s, eP_s, eSI_s, eSJ_s, eSP_s, eInc_s, eAdd_s, eSub_s, eMul_s, eDiv_s, eRem_s, eAnd_s, eXor_s, eNeg_s, eIshl_s, eIshr_s, eDx2_s, ePo2_s, zan_31, zan_255, zan_1, zan_15, zan_m, eLand_s, eLor_s, eLshl_s, eLushr_s, eLcmp_s, eI2l_s, eL2i_s, eDup_s, eDup2_s, eIf_s, eIc_s, eBr_eq, eBr_ne, eBr_lt, eBr_ge, eBr_gt, eBr_le, eNn_s, eNn_n, eG3_s, eG2_s, eGf_s, eP2_s, ePf_s, eAI2_s, eAZ2_s, eAJ2_s, eAQ2_s, eAI_s, eAZ_s, eAJ_s, eAQ_s, eXI2_s, eXZ2_s, eXJ2_s, eXQ2_s, eXI_s, eXZ_s, eXJ_s, eXQ_s, eL2_s, eLn_s, eNa_i, eNa_z, eNa_j, eNq_s, eK_s, eK_n, eR2_s, eRv_s, eRi_s, eCv_s, eCs_s, eCi_s, ePop_s, eMx_s, eMn_s, eCp_s, eCp2_i, eCp2_j, eJd_1, eJd_2, eJd_3, eRI_s, eRZ_s, eRJ_s, eRV_s, zsg_s, zsg_n, zsg_c, List.set_set, Option.map_some, ne_eq, not_false_eq_true, zfit_0, zfit_1, zfit_12, zkd, ↓reduceIte, zc1_I, zc1_P, zset1, zset2, zclr, List.getElem?_cons_zero, List.getElem?_cons_succ, List.set_cons_zero, List.set_cons_succ, List.length_cons, List.length_nil, List.take_succ_cons, List.take_zero, List.drop_succ_cons, List.drop_zero, List.reverse_cons, List.reverse_nil, List.nil_append, List.cons_append, Option.toList_some, Option.toList_none, Nat.reduceAdd, Nat.reduceSub, Nat.reduceLeDiff, Nat.reduceBEq, Nat.reduceEqDiff, Int.reduceToNat, Bool.or_false, Bool.false_or, Bool.or_true, Bool.true_or, Bool.false_eq_true, if_true, if_false, ite_true, ite_false, and_true, true_and, and_self, reduceCtorEq, Int.reduceLT, Int.reduceLE, Int.reduceNeg, Int.reduceAdd, Int.reduceSub, Int.reduceMul, Nat.le_refl, or_true, true_or, or_self, Int.reduceEq, za_120_0, za_120_1, za_120_2, za_120_3, za_120_4, za_120_5, k34, q3, ea]
      ((try unfold zr); (try unfold zix); (repeat' first | exact trivial | assumption | (with_reducible rfl) | omega | (refine And.intro ?_ ?_)))
    refine Go_on (fun p => p == 939) 400 ?_; simp only [Ge_s, eM_s, zct_0, zct_I, zct_P, zct_J, eX_iconst, eX_ldc2w, eX_iload, eX_lload, eX_aload, eX_istore, eX_lstore, eX_astore, eX_iinc, eX_iadd, eX_isub, eX_imul, eX_idiv, eX_irem, eX_iand, eX_ishl, eX_ishr, eX_ixor, eX_ineg, eX_dupx2, eX_pop2, eX_land, eX_lor, eX_lshl, eX_lushr, eX_lcmp, eX_i2l, eX_l2i, eX_dup, eX_dup2, eX_ifCond, eX_ificmp, eX_goto, eX_ifnonnull, eX_tableswitch, eX_invokeinterface, eX_multianewarray, eX_getstatic, eX_iaload, eX_laload, eX_baload, eX_aaload, eX_iastore, eX_bastore, eX_lastore, eX_aastore, eX_arraylength, eX_new, eX_newarray, eX_anewarray, eX_invokevirtual, eX_invokestatic, eX_invokespecial, eX_pop, eX_invokedynamic, eX_ireturn, eX_freturn, eX_lreturn, eX_return, eI_s, eJ_s, eP_s, eSI_s, eSJ_s, eSP_s, eInc_s, eAdd_s, eSub_s, eMul_s, eDiv_s, eRem_s, eAnd_s, eXor_s, eNeg_s, eIshl_s, eIshr_s, eDx2_s, ePo2_s, zan_31, zan_255, zan_1, zan_15, zan_m, eLand_s, eLor_s, eLshl_s, eLushr_s, eLcmp_s, eI2l_s, eL2i_s, eDup_s, eDup2_s, eIf_s, eIc_s, eBr_eq, eBr_ne, eBr_lt, eBr_ge, eBr_gt, eBr_le, eNn_s, eNn_n, eG3_s, eG2_s, eGf_s, eP2_s, ePf_s, eAI2_s, eAZ2_s, eAJ2_s, eAQ2_s, eAI_s, eAZ_s, eAJ_s, eAQ_s, eXI2_s, eXZ2_s, eXJ2_s, eXQ2_s, eXI_s, eXZ_s, eXJ_s, eXQ_s, eL2_s, eLn_s, eNa_i, eNa_z, eNa_j, eNq_s, eK_s, eK_n, eR2_s, eRv_s, eRi_s, eCv_s, eCs_s, eCi_s, ePop_s, eMx_s, eMn_s, eCp_s, eCp2_i, eCp2_j, eJd_1, eJd_2, eJd_3, eRI_s, eRZ_s, eRJ_s, eRV_s, zsg_s, zsg_n, zsg_c, List.set_set, Option.map_some, ne_eq, not_false_eq_true, zfit_0, zfit_1, zfit_12, zkd, ↓reduceIte, zc1_I, zc1_P, zset1, zset2, zclr, List.getElem?_cons_zero, List.getElem?_cons_succ, List.set_cons_zero, List.set_cons_succ, List.length_cons, List.length_nil, List.take_succ_cons, List.take_zero, List.drop_succ_cons, List.drop_zero, List.reverse_cons, List.reverse_nil, List.nil_append, List.cons_append, Option.toList_some, Option.toList_none, Nat.reduceAdd, Nat.reduceSub, Nat.reduceLeDiff, Nat.reduceBEq, Nat.reduceEqDiff, Int.reduceToNat, Bool.or_false, Bool.false_or, Bool.or_true, Bool.true_or, Bool.false_eq_true, if_true, if_false, ite_true, ite_false, and_true, true_and, and_self, reduceCtorEq, Int.reduceLT, Int.reduceLE, Int.reduceNeg, Int.reduceAdd, Int.reduceSub, Int.reduceMul, Nat.le_refl, or_true, true_or, or_self, Int.reduceEq, za_120_0, za_120_1, za_120_2, za_120_3, za_120_4, za_120_5, zf_103, zf_64, k3, b3, c1, Int.reducePow]
    ((try unfold zr); (try unfold zix); (repeat' first | exact trivial | assumption | (with_reducible rfl) | omega | (refine And.intro ?_ ?_)))
  · have c9 := hN h A q en me se (vI e) (vI z11) (vI z12) x13 x14 x15 w li
    refine Go_on (fun p => p == 990) 400 ?_; simp only [Ge_s, eM_s, zct_0, zct_I, zct_P, zct_J, eX_iconst, eX_ldc2w, eX_iload, eX_lload, eX_aload, eX_istore, eX_lstore, eX_astore, eX_iinc, eX_iadd, eX_isub, eX_imul, eX_idiv, eX_irem, eX_iand, eX_ishl, eX_ishr, eX_ixor, eX_ineg, eX_dupx2, eX_pop2, eX_land, eX_lor, eX_lshl, eX_lushr, eX_lcmp, eX_i2l, eX_l2i, eX_dup, eX_dup2, eX_ifCond, eX_ificmp, eX_goto, eX_ifnonnull, eX_tableswitch, eX_invokeinterface, eX_multianewarray, eX_getstatic, eX_iaload, eX_laload, eX_baload, eX_aaload, eX_iastore, eX_bastore, eX_lastore, eX_aastore, eX_arraylength, eX_new, eX_newarray, eX_anewarray, eX_invokevirtual, eX_invokestatic, eX_invokespecial, eX_pop, eX_invokedynamic, eX_ireturn, eX_freturn, eX_lreturn, eX_return, eI_s, eJ_s, eP_s, eSI_s, eSJ_s, eSP_s, eInc_s, eAdd_s, eSub_s, eMul_s, eDiv_s, eRem_s, eAnd_s, eXor_s, eNeg_s, eIshl_s, eIshr_s, eDx2_s, ePo2_s, zan_31, zan_255, zan_1, zan_15, zan_m, eLand_s, eLor_s, eLshl_s, eLushr_s, eLcmp_s, eI2l_s, eL2i_s, eDup_s, eDup2_s, eIf_s, eIc_s, eBr_eq, eBr_ne, eBr_lt, eBr_ge, eBr_gt, eBr_le, eNn_s, eNn_n, eG3_s, eG2_s, eGf_s, eP2_s, ePf_s, eAI2_s, eAZ2_s, eAJ2_s, eAQ2_s, eAI_s, eAZ_s, eAJ_s, eAQ_s, eXI2_s, eXZ2_s, eXJ2_s, eXQ2_s, eXI_s, eXZ_s, eXJ_s, eXQ_s, eL2_s, eLn_s, eNa_i, eNa_z, eNa_j, eNq_s, eK_s, eK_n, eR2_s, eRv_s, eRi_s, eCv_s, eCs_s, eCi_s, ePop_s, eMx_s, eMn_s, eCp_s, eCp2_i, eCp2_j, eJd_1, eJd_2, eJd_3, eRI_s, eRZ_s, eRJ_s, eRV_s, zsg_s, zsg_n, zsg_c, List.set_set, Option.map_some, ne_eq, not_false_eq_true, zfit_0, zfit_1, zfit_12, zkd, ↓reduceIte, zc1_I, zc1_P, zset1, zset2, zclr, List.getElem?_cons_zero, List.getElem?_cons_succ, List.set_cons_zero, List.set_cons_succ, List.length_cons, List.length_nil, List.take_succ_cons, List.take_zero, List.drop_succ_cons, List.drop_zero, List.reverse_cons, List.reverse_nil, List.nil_append, List.cons_append, Option.toList_some, Option.toList_none, Nat.reduceAdd, Nat.reduceSub, Nat.reduceLeDiff, Nat.reduceBEq, Nat.reduceEqDiff, Int.reduceToNat, Bool.or_false, Bool.false_or, Bool.or_true, Bool.true_or, Bool.false_eq_true, if_true, if_false, ite_true, ite_false, and_true, true_and, and_self, reduceCtorEq, Int.reduceLT, Int.reduceLE, Int.reduceNeg, Int.reduceAdd, Int.reduceSub, Int.reduceMul, Nat.le_refl, or_true, true_or, or_self, Int.reduceEq, za_120_0, za_120_1, za_120_2, za_120_3, za_120_4, za_120_5, zf_103, b3, c1, Int.reducePow]
    ((try unfold zr); (try unfold zix); (repeat' first | exact trivial | assumption | (with_reducible rfl) | omega | (refine And.intro ?_ ?_)))
set_option maxRecDepth 100000 in
theorem k_rec (li : LI A q en me se) (w : Wd L xs A q en me se h) (tu z : Int) (Q : zQ) (hN : yNx L xs tu z 7 Q) (x10 x11 x12 x13 x14 x15 : zV) : Go 120 80 [vR 2, vR 3, vR 34, vR 35, vR 36, vR 37, vR 38, vI tu, vI z, vI 7, x10, x11, x12, x13, x14, x15] [] h Q := by
  obtain ⟨⟨hq, q5, q6⟩, hb, hm, hs⟩ := id li
  obtain ⟨⟨q0, q1, q2, q3, q4⟩, qc, qw, qa⟩ := id hq
  have l10 := hb.1
  have k3 := W_3 w
  have k34 := W_34 w
  have k35 := W_35 w
  rcases Nat.eq_zero_or_pos (sbk (aS A)).length with hn | hn
  · have n0 : ¬ (0 : Int) < (sbk (aS A)).length := by omega
    have c3 := hN h A q en me se x10 x11 x12 x13 x14 x15 w li
    refine Go_on (fun p => p == 990) 400 ?_; simp only [Ge_s, eM_s, zct_0, zct_I, zct_P, zct_J, eX_iconst, eX_ldc2w, eX_iload, eX_lload, eX_aload, eX_istore, eX_lstore, eX_astore, eX_iinc, eX_iadd, eX_isub, eX_imul, eX_idiv, eX_irem, eX_iand, eX_ishl, eX_ishr, eX_ixor, eX_ineg, eX_dupx2, eX_pop2, eX_land, eX_lor, eX_lshl, eX_lushr, eX_lcmp, eX_i2l, eX_l2i, eX_dup, eX_dup2, eX_ifCond, eX_ificmp, eX_goto, eX_ifnonnull, eX_tableswitch, eX_invokeinterface, eX_multianewarray, eX_getstatic, eX_iaload, eX_laload, eX_baload, eX_aaload, eX_iastore, eX_bastore, eX_lastore, eX_aastore, eX_arraylength, eX_new, eX_newarray, eX_anewarray, eX_invokevirtual, eX_invokestatic, eX_invokespecial, eX_pop, eX_invokedynamic, eX_ireturn, eX_freturn, eX_lreturn, eX_return, eI_s, eJ_s, eP_s, eSI_s, eSJ_s, eSP_s, eInc_s, eAdd_s, eSub_s, eMul_s, eDiv_s, eRem_s, eAnd_s, eXor_s, eNeg_s, eIshl_s, eIshr_s, eDx2_s, ePo2_s, zan_31, zan_255, zan_1, zan_15, zan_m, eLand_s, eLor_s, eLshl_s, eLushr_s, eLcmp_s, eI2l_s, eL2i_s, eDup_s, eDup2_s, eIf_s, eIc_s, eBr_eq, eBr_ne, eBr_lt, eBr_ge, eBr_gt, eBr_le, eNn_s, eNn_n, eG3_s, eG2_s, eGf_s, eP2_s, ePf_s, eAI2_s, eAZ2_s, eAJ2_s, eAQ2_s, eAI_s, eAZ_s, eAJ_s, eAQ_s, eXI2_s, eXZ2_s, eXJ2_s, eXQ2_s, eXI_s, eXZ_s, eXJ_s, eXQ_s, eL2_s, eLn_s, eNa_i, eNa_z, eNa_j, eNq_s, eK_s, eK_n, eR2_s, eRv_s, eRi_s, eCv_s, eCs_s, eCi_s, ePop_s, eMx_s, eMn_s, eCp_s, eCp2_i, eCp2_j, eJd_1, eJd_2, eJd_3, eRI_s, eRZ_s, eRJ_s, eRV_s, zsg_s, zsg_n, zsg_c, List.set_set, Option.map_some, ne_eq, not_false_eq_true, zfit_0, zfit_1, zfit_12, zkd, ↓reduceIte, zc1_I, zc1_P, zset1, zset2, zclr, List.getElem?_cons_zero, List.getElem?_cons_succ, List.set_cons_zero, List.set_cons_succ, List.length_cons, List.length_nil, List.take_succ_cons, List.take_zero, List.drop_succ_cons, List.drop_zero, List.reverse_cons, List.reverse_nil, List.nil_append, List.cons_append, Option.toList_some, Option.toList_none, Nat.reduceAdd, Nat.reduceSub, Nat.reduceLeDiff, Nat.reduceBEq, Nat.reduceEqDiff, Int.reduceToNat, Bool.or_false, Bool.false_or, Bool.or_true, Bool.true_or, Bool.false_eq_true, if_true, if_false, ite_true, ite_false, and_true, true_and, and_self, reduceCtorEq, Int.reduceLT, Int.reduceLE, Int.reduceNeg, Int.reduceAdd, Int.reduceSub, Int.reduceMul, Nat.le_refl, or_true, true_or, or_self, Int.reduceEq, za_120_0, za_120_1, za_120_2, za_120_3, za_120_4, za_120_5, k34, q3, n0]
    ((try unfold zr); (try unfold zix); (repeat' first | exact trivial | assumption | (with_reducible rfl) | omega | (refine And.intro ?_ ?_)))
  · have n0 : (0 : Int) < (sbk (aS A)).length := by omega
    obtain ⟨e, ee, he⟩ := low_n (v := zwr z / 8) n0
    obtain ⟨code, ec, hc⟩ := low_n (v := zwr z / 128) (n := 1296) (by omega)
    have b1 := l_low (h := h) (v := zwr z / 8) (n := ((sbk (aS A)).length : Int)) (by omega)
    have b2 := l_low (h := h) (v := zwr z / 128) (n := 1296) (by omega)
    rw [ee] at b1
    rw [ec] at b2
    have b4 := l_far (h := h) k34 k35 hq hb (code : Int) (e : Int) (by omega) (by unfold zr; omega)
    have te : (5 * (e : Int)).toNat = 5 * e := by omega
    have ge := (hb.2 e (by omega)).1
    have g1 := ge.1
    have fa := lfr_all (sbk (aS A)) (sap (aS A)) (code : Int) (e : Int) qa.1
    cases hB : yal (lfr (sbk (aS A)) (sap (aS A)) (code : Int) (e : Int)) 0 (sbk (aS A)).length
    · rw [hB] at b4 fa
      have b0 : b01 false = 0 := rfl
      rw [b0] at b4
      have c3 : Ca 63 [vR 3, vI e, vI code] h (eK (fun pc ls st h => Go 120 pc ls st h Q) 879 [vR 2, vR 3, vR 34, vR 35, vR 36, vR 37, vR 38, vI tu, vI z, vI 7, vI e, vI code, vI 0, x13, x14, x15] []) := by
        refine W_call (A2 := A) w (fun F J V P k c => (p_recode_bad k c (e : Int) (code : Int) (by unfold zr; omega) (by unfold zr; omega)).2.2 ⟨by omega, by omega⟩ ⟨by omega, by omega⟩ (fun z => absurd (fa.2 z) (by decide))) _ ?_
        intro h2 w2
        rw [eK_s]
        have k35 := W_35 w2
        have w3 := W_s35 w2 (va_up en (5 * e) (en (5 * e)))
        rw [va_up_id] at w3
        have c4 := k_rec2 li w3 tu z Q hN e (by omega) code 0 x13 x14 x15
        have ev : va_up en (5 * e) ((bcd (sbk (aS A)) e : Nat) : Int) = en := by rw [← g1, va_up_id]
        refine Go_on (fun p => p == 922) 400 ?_; simp only [Ge_s, eM_s, zct_0, zct_I, zct_P, zct_J, eX_iconst, eX_ldc2w, eX_iload, eX_lload, eX_aload, eX_istore, eX_lstore, eX_astore, eX_iinc, eX_iadd, eX_isub, eX_imul, eX_idiv, eX_irem, eX_iand, eX_ishl, eX_ishr, eX_ixor, eX_ineg, eX_dupx2, eX_pop2, eX_land, eX_lor, eX_lshl, eX_lushr, eX_lcmp, eX_i2l, eX_l2i, eX_dup, eX_dup2, eX_ifCond, eX_ificmp, eX_goto, eX_ifnonnull, eX_tableswitch, eX_invokeinterface, eX_multianewarray, eX_getstatic, eX_iaload, eX_laload, eX_baload, eX_aaload, eX_iastore, eX_bastore, eX_lastore, eX_aastore, eX_arraylength, eX_new, eX_newarray, eX_anewarray, eX_invokevirtual, eX_invokestatic, eX_invokespecial, eX_pop, eX_invokedynamic, eX_ireturn, eX_freturn, eX_lreturn, eX_return, eI_s, eJ_s, eP_s, eSI_s, eSJ_s, eSP_s, eInc_s, eAdd_s, eSub_s, eMul_s, eDiv_s, eRem_s, eAnd_s, eXor_s, eNeg_s, eIshl_s, eIshr_s, eDx2_s, ePo2_s, zan_31, zan_255, zan_1, zan_15, zan_m, eLand_s, eLor_s, eLshl_s, eLushr_s, eLcmp_s, eI2l_s, eL2i_s, eDup_s, eDup2_s, eIf_s, eIc_s, eBr_eq, eBr_ne, eBr_lt, eBr_ge, eBr_gt, eBr_le, eNn_s, eNn_n, eG3_s, eG2_s, eGf_s, eP2_s, ePf_s, eAI2_s, eAZ2_s, eAJ2_s, eAQ2_s, eAI_s, eAZ_s, eAJ_s, eAQ_s, eXI2_s, eXZ2_s, eXJ2_s, eXQ2_s, eXI_s, eXZ_s, eXJ_s, eXQ_s, eL2_s, eLn_s, eNa_i, eNa_z, eNa_j, eNq_s, eK_s, eK_n, eR2_s, eRv_s, eRi_s, eCv_s, eCs_s, eCi_s, ePop_s, eMx_s, eMn_s, eCp_s, eCp2_i, eCp2_j, eJd_1, eJd_2, eJd_3, eRI_s, eRZ_s, eRJ_s, eRV_s, zsg_s, zsg_n, zsg_c, List.set_set, Option.map_some, ne_eq, not_false_eq_true, zfit_0, zfit_1, zfit_12, zkd, ↓reduceIte, zc1_I, zc1_P, zset1, zset2, zclr, List.getElem?_cons_zero, List.getElem?_cons_succ, List.set_cons_zero, List.set_cons_succ, List.length_cons, List.length_nil, List.take_succ_cons, List.take_zero, List.drop_succ_cons, List.drop_zero, List.reverse_cons, List.reverse_nil, List.nil_append, List.cons_append, Option.toList_some, Option.toList_none, Nat.reduceAdd, Nat.reduceSub, Nat.reduceLeDiff, Nat.reduceBEq, Nat.reduceEqDiff, Int.reduceToNat, Bool.or_false, Bool.false_or, Bool.or_true, Bool.true_or, Bool.false_eq_true, if_true, if_false, ite_true, ite_false, and_true, true_and, and_self, reduceCtorEq, Int.reduceLT, Int.reduceLE, Int.reduceNeg, Int.reduceAdd, Int.reduceSub, Int.reduceMul, Nat.le_refl, or_true, true_or, or_self, Int.reduceEq, za_120_0, za_120_1, za_120_2, za_120_3, za_120_4, za_120_5, k35, te, g1, ev]
        ((try unfold zr); (try unfold zix); (repeat' first | exact trivial | assumption | (with_reducible rfl) | omega | (refine And.intro ?_ ?_)))
      refine Go_on (fun p => p == 879) 400 ?_; simp only [Ge_s, eM_s, zct_0, zct_I, zct_P, zct_J, eX_iconst, eX_ldc2w, eX_iload, eX_lload, eX_aload, eX_istore, eX_lstore, eX_astore, eX_iinc, eX_iadd, eX_isub, eX_imul, eX_idiv, eX_irem, eX_iand, eX_ishl, eX_ishr, eX_ixor, eX_ineg, eX_dupx2, eX_pop2, eX_land, eX_lor, eX_lshl, eX_lushr, eX_lcmp, eX_i2l, eX_l2i, eX_dup, eX_dup2, eX_ifCond, eX_ificmp, eX_goto, eX_ifnonnull, eX_tableswitch, eX_invokeinterface, eX_multianewarray, eX_getstatic, eX_iaload, eX_laload, eX_baload, eX_aaload, eX_iastore, eX_bastore, eX_lastore, eX_aastore, eX_arraylength, eX_new, eX_newarray, eX_anewarray, eX_invokevirtual, eX_invokestatic, eX_invokespecial, eX_pop, eX_invokedynamic, eX_ireturn, eX_freturn, eX_lreturn, eX_return, eI_s, eJ_s, eP_s, eSI_s, eSJ_s, eSP_s, eInc_s, eAdd_s, eSub_s, eMul_s, eDiv_s, eRem_s, eAnd_s, eXor_s, eNeg_s, eIshl_s, eIshr_s, eDx2_s, ePo2_s, zan_31, zan_255, zan_1, zan_15, zan_m, eLand_s, eLor_s, eLshl_s, eLushr_s, eLcmp_s, eI2l_s, eL2i_s, eDup_s, eDup2_s, eIf_s, eIc_s, eBr_eq, eBr_ne, eBr_lt, eBr_ge, eBr_gt, eBr_le, eNn_s, eNn_n, eG3_s, eG2_s, eGf_s, eP2_s, ePf_s, eAI2_s, eAZ2_s, eAJ2_s, eAQ2_s, eAI_s, eAZ_s, eAJ_s, eAQ_s, eXI2_s, eXZ2_s, eXJ2_s, eXQ2_s, eXI_s, eXZ_s, eXJ_s, eXQ_s, eL2_s, eLn_s, eNa_i, eNa_z, eNa_j, eNq_s, eK_s, eK_n, eR2_s, eRv_s, eRi_s, eCv_s, eCs_s, eCi_s, ePop_s, eMx_s, eMn_s, eCp_s, eCp2_i, eCp2_j, eJd_1, eJd_2, eJd_3, eRI_s, eRZ_s, eRJ_s, eRV_s, zsg_s, zsg_n, zsg_c, List.set_set, Option.map_some, ne_eq, not_false_eq_true, zfit_0, zfit_1, zfit_12, zkd, ↓reduceIte, zc1_I, zc1_P, zset1, zset2, zclr, List.getElem?_cons_zero, List.getElem?_cons_succ, List.set_cons_zero, List.set_cons_succ, List.length_cons, List.length_nil, List.take_succ_cons, List.take_zero, List.drop_succ_cons, List.drop_zero, List.reverse_cons, List.reverse_nil, List.nil_append, List.cons_append, Option.toList_some, Option.toList_none, Nat.reduceAdd, Nat.reduceSub, Nat.reduceLeDiff, Nat.reduceBEq, Nat.reduceEqDiff, Int.reduceToNat, Bool.or_false, Bool.false_or, Bool.or_true, Bool.true_or, Bool.false_eq_true, if_true, if_false, ite_true, ite_false, and_true, true_and, and_self, reduceCtorEq, Int.reduceLT, Int.reduceLE, Int.reduceNeg, Int.reduceAdd, Int.reduceSub, Int.reduceMul, Nat.le_refl, or_true, true_or, or_self, Int.reduceEq, za_120_0, za_120_1, za_120_2, za_120_3, za_120_4, za_120_5, zf_103, zf_119, zf_63, k3, k34, q3, n0, b1, b2, b4, Int.reducePow]
      ((try unfold zr); (try unfold zix); (repeat' first | exact trivial | assumption | (with_reducible rfl) | omega | (refine And.intro ?_ ?_)))
    · rw [hB] at b4 fa
      have b0 : b01 true = 1 := rfl
      rw [b0] at b4
      have c3 : Ca 63 [vR 3, vI e, vI code] h (eK (fun pc ls st h => Go 120 pc ls st h Q) 879 [vR 2, vR 3, vR 34, vR 35, vR 36, vR 37, vR 38, vI tu, vI z, vI 7, vI e, vI code, vI 1, x13, x14, x15] []) := by
        refine W_call (A2 := (((aS A).1, brc (sbk (aS A)) e code, (aS A).2.2), aP A, ykp (aL A) (aS A), a6 A, a7 A)) w (fun F J V P k c => p_recode k c e code (by omega) (by omega) (fa.1 rfl)) _ ?_
        intro h2 w2
        rw [eK_s]
        have k35 := W_35 w2
        have w3 := W_s35 w2 (va_up en (5 * e) (code : Int))
        have el : (brc (sbk (aS A)) e code).length = (sbk (aS A)).length := by unfold brc; rw [List.length_set]
        have c4 := k_rec2 (A := (((aS A).1, brc (sbk (aS A)) e code, (aS A).2.2), aP A, ykp (aL A) (aS A), a6 A, a7 A)) (by
          refine ⟨⟨⟨⟨q0, q1, q2, ?_, q4⟩, qc, qw, qa⟩, q5, q6⟩, lb_rc hb (by omega) (by omega), hm, hs⟩
          show q 3 = (((brc (sbk (aS A)) e code).length : Nat) : Int)
          rw [el]; exact q3) w3 tu z Q hN e (by
          show e < (brc (sbk (aS A)) e code).length
          rw [el]; omega) code 1 x13 x14 x15
        have ea : (((bcd (sbk (aS A)) e : Nat) : Int) = ((bcd (sbk (aS A)) e : Nat) : Int)) = True := eq_true rfl
        refine Go_on (fun p => p == 922) 400 ?_; simp only [Ge_s, eM_s, zct_0, zct_I, zct_P, zct_J, eX_iconst, eX_ldc2w, eX_iload, eX_lload, eX_aload, eX_istore, eX_lstore, eX_astore, eX_iinc, eX_iadd, eX_isub, eX_imul, eX_idiv, eX_irem, eX_iand, eX_ishl, eX_ishr, eX_ixor, eX_ineg, eX_dupx2, eX_pop2, eX_land, eX_lor, eX_lshl, eX_lushr, eX_lcmp, eX_i2l, eX_l2i, eX_dup, eX_dup2, eX_ifCond, eX_ificmp, eX_goto, eX_ifnonnull, eX_tableswitch, eX_invokeinterface, eX_multianewarray, eX_getstatic, eX_iaload, eX_laload, eX_baload, eX_aaload, eX_iastore, eX_bastore, eX_lastore, eX_aastore, eX_arraylength, eX_new, eX_newarray, eX_anewarray, eX_invokevirtual, eX_invokestatic, eX_invokespecial, eX_pop, eX_invokedynamic, eX_ireturn, eX_freturn, eX_lreturn, eX_return, eI_s, eJ_s, eP_s, eSI_s, eSJ_s, eSP_s, eInc_s, eAdd_s, eSub_s, eMul_s, eDiv_s, eRem_s, eAnd_s, eXor_s, eNeg_s, eIshl_s, eIshr_s, eDx2_s, ePo2_s, zan_31, zan_255, zan_1, zan_15, zan_m, eLand_s, eLor_s, eLshl_s, eLushr_s, eLcmp_s, eI2l_s, eL2i_s, eDup_s, eDup2_s, eIf_s, eIc_s, eBr_eq, eBr_ne, eBr_lt, eBr_ge, eBr_gt, eBr_le, eNn_s, eNn_n, eG3_s, eG2_s, eGf_s, eP2_s, ePf_s, eAI2_s, eAZ2_s, eAJ2_s, eAQ2_s, eAI_s, eAZ_s, eAJ_s, eAQ_s, eXI2_s, eXZ2_s, eXJ2_s, eXQ2_s, eXI_s, eXZ_s, eXJ_s, eXQ_s, eL2_s, eLn_s, eNa_i, eNa_z, eNa_j, eNq_s, eK_s, eK_n, eR2_s, eRv_s, eRi_s, eCv_s, eCs_s, eCi_s, ePop_s, eMx_s, eMn_s, eCp_s, eCp2_i, eCp2_j, eJd_1, eJd_2, eJd_3, eRI_s, eRZ_s, eRJ_s, eRV_s, zsg_s, zsg_n, zsg_c, List.set_set, Option.map_some, ne_eq, not_false_eq_true, zfit_0, zfit_1, zfit_12, zkd, ↓reduceIte, zc1_I, zc1_P, zset1, zset2, zclr, List.getElem?_cons_zero, List.getElem?_cons_succ, List.set_cons_zero, List.set_cons_succ, List.length_cons, List.length_nil, List.take_succ_cons, List.take_zero, List.drop_succ_cons, List.drop_zero, List.reverse_cons, List.reverse_nil, List.nil_append, List.cons_append, Option.toList_some, Option.toList_none, Nat.reduceAdd, Nat.reduceSub, Nat.reduceLeDiff, Nat.reduceBEq, Nat.reduceEqDiff, Int.reduceToNat, Bool.or_false, Bool.false_or, Bool.or_true, Bool.true_or, Bool.false_eq_true, if_true, if_false, ite_true, ite_false, and_true, true_and, and_self, reduceCtorEq, Int.reduceLT, Int.reduceLE, Int.reduceNeg, Int.reduceAdd, Int.reduceSub, Int.reduceMul, Nat.le_refl, or_true, true_or, or_self, Int.reduceEq, za_120_0, za_120_1, za_120_2, za_120_3, za_120_4, za_120_5, k35, te, g1, ea]
        ((try unfold zr); (try unfold zix); (repeat' first | exact trivial | assumption | (with_reducible rfl) | omega | (refine And.intro ?_ ?_)))
      refine Go_on (fun p => p == 879) 400 ?_; simp only [Ge_s, eM_s, zct_0, zct_I, zct_P, zct_J, eX_iconst, eX_ldc2w, eX_iload, eX_lload, eX_aload, eX_istore, eX_lstore, eX_astore, eX_iinc, eX_iadd, eX_isub, eX_imul, eX_idiv, eX_irem, eX_iand, eX_ishl, eX_ishr, eX_ixor, eX_ineg, eX_dupx2, eX_pop2, eX_land, eX_lor, eX_lshl, eX_lushr, eX_lcmp, eX_i2l, eX_l2i, eX_dup, eX_dup2, eX_ifCond, eX_ificmp, eX_goto, eX_ifnonnull, eX_tableswitch, eX_invokeinterface, eX_multianewarray, eX_getstatic, eX_iaload, eX_laload, eX_baload, eX_aaload, eX_iastore, eX_bastore, eX_lastore, eX_aastore, eX_arraylength, eX_new, eX_newarray, eX_anewarray, eX_invokevirtual, eX_invokestatic, eX_invokespecial, eX_pop, eX_invokedynamic, eX_ireturn, eX_freturn, eX_lreturn, eX_return, eI_s, eJ_s, eP_s, eSI_s, eSJ_s, eSP_s, eInc_s, eAdd_s, eSub_s, eMul_s, eDiv_s, eRem_s, eAnd_s, eXor_s, eNeg_s, eIshl_s, eIshr_s, eDx2_s, ePo2_s, zan_31, zan_255, zan_1, zan_15, zan_m, eLand_s, eLor_s, eLshl_s, eLushr_s, eLcmp_s, eI2l_s, eL2i_s, eDup_s, eDup2_s, eIf_s, eIc_s, eBr_eq, eBr_ne, eBr_lt, eBr_ge, eBr_gt, eBr_le, eNn_s, eNn_n, eG3_s, eG2_s, eGf_s, eP2_s, ePf_s, eAI2_s, eAZ2_s, eAJ2_s, eAQ2_s, eAI_s, eAZ_s, eAJ_s, eAQ_s, eXI2_s, eXZ2_s, eXJ2_s, eXQ2_s, eXI_s, eXZ_s, eXJ_s, eXQ_s, eL2_s, eLn_s, eNa_i, eNa_z, eNa_j, eNq_s, eK_s, eK_n, eR2_s, eRv_s, eRi_s, eCv_s, eCs_s, eCi_s, ePop_s, eMx_s, eMn_s, eCp_s, eCp2_i, eCp2_j, eJd_1, eJd_2, eJd_3, eRI_s, eRZ_s, eRJ_s, eRV_s, zsg_s, zsg_n, zsg_c, List.set_set, Option.map_some, ne_eq, not_false_eq_true, zfit_0, zfit_1, zfit_12, zkd, ↓reduceIte, zc1_I, zc1_P, zset1, zset2, zclr, List.getElem?_cons_zero, List.getElem?_cons_succ, List.set_cons_zero, List.set_cons_succ, List.length_cons, List.length_nil, List.take_succ_cons, List.take_zero, List.drop_succ_cons, List.drop_zero, List.reverse_cons, List.reverse_nil, List.nil_append, List.cons_append, Option.toList_some, Option.toList_none, Nat.reduceAdd, Nat.reduceSub, Nat.reduceLeDiff, Nat.reduceBEq, Nat.reduceEqDiff, Int.reduceToNat, Bool.or_false, Bool.false_or, Bool.or_true, Bool.true_or, Bool.false_eq_true, if_true, if_false, ite_true, ite_false, and_true, true_and, and_self, reduceCtorEq, Int.reduceLT, Int.reduceLE, Int.reduceNeg, Int.reduceAdd, Int.reduceSub, Int.reduceMul, Nat.le_refl, or_true, true_or, or_self, Int.reduceEq, za_120_0, za_120_1, za_120_2, za_120_3, za_120_4, za_120_5, zf_103, zf_119, zf_63, k3, k34, q3, n0, b1, b2, b4, Int.reducePow]
      ((try unfold zr); (try unfold zix); (repeat' first | exact trivial | assumption | (with_reducible rfl) | omega | (refine And.intro ?_ ?_)))
end
