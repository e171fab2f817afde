/-! The law: a message is sent -/
def hhS (h : zH) (q s : Nat → Int) : zH := (h.set 34 (aI 7 q)).set 37 (aI 60 s)
/-- a sent word in the law's row -/
def lwd (se : Nat → Int) (w : Nat) (t : yT) : Prop := (se (15 * w) = tfi t ∧ se (15 * w + 1) = tsp t ∧ se (15 * w + 2) = tco t ∧ se (15 * w + 3) = tpa t ∧ se (15 * w + 4) = (tre t).length) ∧ ((tor t).length = (tre t).length ∧ 2 ≤ (tre t).length ∧ (tre t).length ≤ 5) ∧ ∀ j, j < (tre t).length → se (15 * w + 5 + j) = ((tor t).getD j 0 : Nat) ∧ se (15 * w + 10 + j) = ((tre t).getD j 0 : Nat)
def lsr (se : Nat → Int) (sn : List yT) : Prop := sn.length ≤ 4 ∧ ∀ w, w < sn.length → lwd se w (sw sn w)
set_option maxRecDepth 100000 in
theorem lwd_cg {se se2 : Nat → Int} {w : Nat} {t : yT} (h : lwd se w t) (e : ∀ i, 15 * w ≤ i → i < 15 * w + 15 → se2 i = se i) : lwd se2 w t := by
  obtain ⟨⟨a1, a2, a3, a4, a5⟩, a6, a7⟩ := h
  refine ⟨⟨?_, ?_, ?_, ?_, ?_⟩, a6, fun j hj => ?_⟩
  · rw [e _ (by omega) (by omega)]; exact a1
  · rw [e _ (by omega) (by omega)]; exact a2
  · rw [e _ (by omega) (by omega)]; exact a3
  · rw [e _ (by omega) (by omega)]; exact a4
  · rw [e _ (by omega) (by omega)]; exact a5
  · rw [e _ (by omega) (by omega), e _ (by omega) (by omega)]; exact a7 j hj
set_option maxRecDepth 100000 in
theorem lq_up {q : Nat → Int} {co wi ap : Int} {ne nm : Nat} (h : lq q co wi ap ne nm) {i : Nat} (hi : 5 ≤ i) (z : Int) : lq (va_up q i z) co wi ap ne nm := by
  obtain ⟨⟨q0, q1, q2, q3, q4⟩, r⟩ := h
  refine ⟨⟨?_, ?_, ?_, ?_, ?_⟩, r⟩
  · rw [y_up, if_neg (by omega)]; exact q0
  · rw [y_up, if_neg (by omega)]; exact q1
  · rw [y_up, if_neg (by omega)]; exact q2
  · rw [y_up, if_neg (by omega)]; exact q3
  · rw [y_up, if_neg (by omega)]; exact q4
section
variable {h : zH} {q en me se0 : Nat → Int} {bk : yB} {ms : yF} {co wi ap : Int}
set_option maxRecDepth 100000 in
theorem hS_s34 (a a' s : Nat → Int) : (hhS h a s).set 34 (aI 7 a') = hhS h a' s := by
  unfold hhS
  rw [zsg_c (i := 37) (j := 34) (by omega), List.set_set]
set_option maxRecDepth 100000 in
theorem hS_s37 (a s s' : Nat → Int) : (hhS h a s).set 37 (aI 60 s') = hhS h a s' := by
  unfold hhS
  rw [List.set_set]
set_option maxRecDepth 100000 in
theorem hS_34 (h34 : h[34]? = some (aI 7 q)) (a s : Nat → Int) : (hhS h a s)[34]? = some (aI 7 a) := by
  unfold hhS
  rw [zsg_n (by omega), zsg_s, h34]; rfl
set_option maxRecDepth 100000 in
theorem hS_37 (h37 : h[37]? = some (aI 60 se0)) (a s : Nat → Int) : (hhS h a s)[37]? = some (aI 60 s) := by
  unfold hhS
  rw [zsg_s, zsg_n (by omega), h37]; rfl
set_option maxRecDepth 100000 in
theorem hS_n {t : Nat} (h1 : t ≠ 34) (h2 : t ≠ 37) (a s : Nat → Int) : (hhS h a s)[t]? = h[t]? := by
  unfold hhS
  rw [zsg_n (fun z => h2 z.symm), zsg_n (fun z => h1 z.symm)]
set_option maxRecDepth 100000 in
theorem hS_id (h34 : h[34]? = some (aI 7 q)) (h37 : h[37]? = some (aI 60 se0)) : hhS h q se0 = h := by
  unfold hhS
  rw [zsg_i h34, zsg_i h37]
/-- the letters so far -/
def lle (s0 se : Nat → Int) (m j : Nat) (L : Nat → Int) : Prop := (∀ i, i < 15 * m + 5 → se i = s0 i) ∧ ∀ t, t < j → se (15 * m + 5 + t) = L t ∧ se (15 * m + 10 + t) = L t
set_option maxRecDepth 100000 in
theorem lle_s {s0 se : Nat → Int} {m j : Nat} {L : Nat → Int} (hj : j < 5) (h : lle s0 se m j L) : lle s0 (va_up (va_up se (15 * m + 5 + j) (L j)) (15 * m + 10 + j) (L j)) m (j + 1) L := by
  refine ⟨fun i hi => ?_, fun t ht => ⟨?_, ?_⟩⟩
  · rw [y_up, if_neg (by omega), y_up, if_neg (by omega)]; exact h.1 i hi
  · rw [y_up, if_neg (by omega), y_up]
    by_cases c : t = j
    · rw [if_pos (by omega), c]
    · rw [if_neg (by omega)]; exact (h.2 t (by omega)).1
  · rw [y_up]
    by_cases c : t = j
    · rw [if_pos (by omega), c]
    · rw [if_neg (by omega), y_up, if_neg (by omega)]; exact (h.2 t (by omega)).2
set_option maxRecDepth 100000 in
theorem l_send_c (h35 : h[35]? = some (aI 50 en)) (h37 : h[37]? = some (aI 60 se0)) (hb : lb en bk) (m : Nat) (hm3 : m ≤ 3) (e : Nat) (he : e < bk.length) (s0 : Nat → Int) (s4 : s0 (15 * m + 4) = 4) (qq : Nat → Int) (vb fr k s : Int) (Q : zQ) (hQ : ∀ se sum y, lle s0 se m 4 (fun j => dg (bcd bk e) j) → Go 113 289 [vR 34, vR 35, vR 36, vR 37, vI vb, vI fr, vI k, vI (15 * (m : Int)), vI s, vI e, vI sum, vI 4, y] [] (hhS h qq se) Q) : ∀ (d j : Nat) (sum : Int) (y : zV) (se : Nat → Int), j + d = 4 → lle s0 se m j (fun j => dg (bcd bk e) j) → Go 113 182 [vR 34, vR 35, vR 36, vR 37, vI vb, vI fr, vI k, vI (15 * (m : Int)), vI s, vI e, vI sum, vI j, y] [] (hhS h qq se) Q := by
  intro d
  have l10 := hb.1
  have g0 := (hb.2 e he).1
  have g1 := g0.1
  have t4 : (15 * (m : Int) + 4).toNat = 15 * m + 4 := by omega
  have k37 := fun s => hS_37 (h := h) h37 qq s
  have k35 := fun s => (hS_n (h := h) (t := 35) (by omega) (by omega) qq s).trans h35
  have k37s := hS_s37 (h := h) qq
  have te : (5 * (e : Int)).toNat = 5 * e := by omega
  have ne : ¬ (e : Int) < 0 := by omega
  induction d with
  | zero =>
    intro j sum y se hj hl
    obtain rfl : j = 4 := by omega
    have e4 : se (15 * m + 4) = 4 := by rw [hl.1 _ (by omega)]; exact s4
    have c3 := hQ se sum y hl
    have n4 : ((4 : Nat) : Int) = 4 := rfl
    rw [n4]
    refine Go_on (fun p => p == 289) 400 ?_; simp only [Ge_s, eM_s, zct_0, zct_I, zct_P, zct_J, eX_iconst, eX_ldc2w, eX_iload, eX_lload, eX_aload, eX_istore, eX_lstore, eX_astore, eX_iinc, eX_iadd, eX_isub, eX_imul, eX_idiv, eX_irem, eX_iand, eX_ishl, eX_ishr, eX_ixor, eX_ineg, eX_dupx2, eX_pop2, eX_land, eX_lor, eX_lshl, eX_lushr, eX_lcmp, eX_i2l, eX_l2i, eX_dup, eX_dup2, eX_ifCond, eX_ificmp, eX_goto, eX_ifnonnull, eX_tableswitch, eX_invokeinterface, eX_multianewarray, eX_getstatic, eX_iaload, eX_laload, eX_baload, eX_aaload, eX_iastore, eX_bastore, eX_lastore, eX_aastore, eX_arraylength, eX_new, eX_newarray, eX_anewarray, eX_invokevirtual, eX_invokestatic, eX_invokespecial, eX_pop, eX_invokedynamic, eX_ireturn, eX_freturn, eX_lreturn, eX_return, eI_s, eJ_s, eP_s, eSI_s, eSJ_s, eSP_s, eInc_s, eAdd_s, eSub_s, eMul_s, eDiv_s, eRem_s, eAnd_s, eXor_s, eNeg_s, eIshl_s, eIshr_s, eDx2_s, ePo2_s, zan_31, zan_255, zan_1, zan_15, zan_m, eLand_s, eLor_s, eLshl_s, eLushr_s, eLcmp_s, eI2l_s, eL2i_s, eDup_s, eDup2_s, eIf_s, eIc_s, eBr_eq, eBr_ne, eBr_lt, eBr_ge, eBr_gt, eBr_le, eNn_s, eNn_n, eG3_s, eG2_s, eGf_s, eP2_s, ePf_s, eAI2_s, eAZ2_s, eAJ2_s, eAQ2_s, eAI_s, eAZ_s, eAJ_s, eAQ_s, eXI2_s, eXZ2_s, eXJ2_s, eXQ2_s, eXI_s, eXZ_s, eXJ_s, eXQ_s, eL2_s, eLn_s, eNa_i, eNa_z, eNa_j, eNq_s, eK_s, eK_n, eR2_s, eRv_s, eRi_s, eCv_s, eCs_s, eCi_s, ePop_s, eMx_s, eMn_s, eCp_s, eCp2_i, eCp2_j, eJd_1, eJd_2, eJd_3, eRI_s, eRZ_s, eRJ_s, eRV_s, zsg_s, zsg_n, zsg_c, List.set_set, Option.map_some, ne_eq, not_false_eq_true, zfit_0, zfit_1, zfit_12, zkd, ↓reduceIte, zc1_I, zc1_P, zset1, zset2, zclr, List.getElem?_cons_zero, List.getElem?_cons_succ, List.set_cons_zero, List.set_cons_succ, List.length_cons, List.length_nil, List.take_succ_cons, List.take_zero, List.drop_succ_cons, List.drop_zero, List.reverse_cons, List.reverse_nil, List.nil_append, List.cons_append, Option.toList_some, Option.toList_none, Nat.reduceAdd, Nat.reduceSub, Nat.reduceLeDiff, Nat.reduceBEq, Nat.reduceEqDiff, Int.reduceToNat, Bool.or_false, Bool.false_or, Bool.or_true, Bool.true_or, Bool.false_eq_true, if_true, if_false, ite_true, ite_false, and_true, true_and, and_self, reduceCtorEq, Int.reduceLT, Int.reduceLE, Int.reduceNeg, Int.reduceAdd, Int.reduceSub, Int.reduceMul, Nat.le_refl, or_true, true_or, or_self, Int.reduceEq, za_113_0, za_113_1, k37, t4, e4, Int.lt_irrefl]
    ((try unfold zr); (try unfold zix); (repeat' first | exact trivial | assumption | (with_reducible rfl) | omega | (refine And.intro ?_ ?_)))
  | succ d ih =>
    intro j sum y se hj hl
    have e4 : se (15 * m + 4) = 4 := by rw [hl.1 _ (by omega)]; exact s4
    have e1 : (j : Int) < 4 := by omega
    have b1 := l_digit (h := hhS h qq se) (c := (bcd bk e : Nat)) (p := (j : Int)) (by omega) (by omega)
    have t5 : (15 * (m : Int) + 5 + (j : Int)).toNat = 15 * m + 5 + j := by omega
    have t10 : (15 * (m : Int) + 10 + (j : Int)).toNat = 15 * m + 10 + j := by omega
    have c3 := ih (j + 1) (sum + (dg (bcd bk e : Nat) j - 6)) (vI (dg (bcd bk e : Nat) j)) _ (by omega) (lle_s (by omega) hl)
    refine Go_on (fun p => p == 182) 400 ?_; simp only [Ge_s, eM_s, zct_0, zct_I, zct_P, zct_J, eX_iconst, eX_ldc2w, eX_iload, eX_lload, eX_aload, eX_istore, eX_lstore, eX_astore, eX_iinc, eX_iadd, eX_isub, eX_imul, eX_idiv, eX_irem, eX_iand, eX_ishl, eX_ishr, eX_ixor, eX_ineg, eX_dupx2, eX_pop2, eX_land, eX_lor, eX_lshl, eX_lushr, eX_lcmp, eX_i2l, eX_l2i, eX_dup, eX_dup2, eX_ifCond, eX_ificmp, eX_goto, eX_ifnonnull, eX_tableswitch, eX_invokeinterface, eX_multianewarray, eX_getstatic, eX_iaload, eX_laload, eX_baload, eX_aaload, eX_iastore, eX_bastore, eX_lastore, eX_aastore, eX_arraylength, eX_new, eX_newarray, eX_anewarray, eX_invokevirtual, eX_invokestatic, eX_invokespecial, eX_pop, eX_invokedynamic, eX_ireturn, eX_freturn, eX_lreturn, eX_return, eI_s, eJ_s, eP_s, eSI_s, eSJ_s, eSP_s, eInc_s, eAdd_s, eSub_s, eMul_s, eDiv_s, eRem_s, eAnd_s, eXor_s, eNeg_s, eIshl_s, eIshr_s, eDx2_s, ePo2_s, zan_31, zan_255, zan_1, zan_15, zan_m, eLand_s, eLor_s, eLshl_s, eLushr_s, eLcmp_s, eI2l_s, eL2i_s, eDup_s, eDup2_s, eIf_s, eIc_s, eBr_eq, eBr_ne, eBr_lt, eBr_ge, eBr_gt, eBr_le, eNn_s, eNn_n, eG3_s, eG2_s, eGf_s, eP2_s, ePf_s, eAI2_s, eAZ2_s, eAJ2_s, eAQ2_s, eAI_s, eAZ_s, eAJ_s, eAQ_s, eXI2_s, eXZ2_s, eXJ2_s, eXQ2_s, eXI_s, eXZ_s, eXJ_s, eXQ_s, eL2_s, eLn_s, eNa_i, eNa_z, eNa_j, eNq_s, eK_s, eK_n, eR2_s, eRv_s, eRi_s, eCv_s, eCs_s, eCi_s, ePop_s, eMx_s, eMn_s, eCp_s, eCp2_i, eCp2_j, eJd_1, eJd_2, eJd_3, eRI_s, eRZ_s, eRJ_s, eRV_s, zsg_s, zsg_n, zsg_c, List.set_set, Option.map_some, ne_eq, not_false_eq_true, zfit_0, zfit_1, zfit_12, zkd, ↓reduceIte, zc1_I, zc1_P, zset1, zset2, zclr, List.getElem?_cons_zero, List.getElem?_cons_succ, List.set_cons_zero, List.set_cons_succ, List.length_cons, List.length_nil, List.take_succ_cons, List.take_zero, List.drop_succ_cons, List.drop_zero, List.reverse_cons, List.reverse_nil, List.nil_append, List.cons_append, Option.toList_some, Option.toList_none, Nat.reduceAdd, Nat.reduceSub, Nat.reduceLeDiff, Nat.reduceBEq, Nat.reduceEqDiff, Int.reduceToNat, Bool.or_false, Bool.false_or, Bool.or_true, Bool.true_or, Bool.false_eq_true, if_true, if_false, ite_true, ite_false, and_true, true_and, and_self, reduceCtorEq, Int.reduceLT, Int.reduceLE, Int.reduceNeg, Int.reduceAdd, Int.reduceSub, Int.reduceMul, Nat.le_refl, or_true, true_or, or_self, Int.reduceEq, za_113_0, za_113_1, zf_107, k37, k35, k37s, t4, e4, e1, ne, te, g1, b1, t5, t10]
    ((try unfold zr); (try unfold zix); (repeat' first | exact trivial | assumption | (with_reducible rfl) | omega | (refine And.intro ?_ ?_)))
set_option maxRecDepth 100000 in
theorem l_send_p (h34 : h[34]? = some (aI 7 q)) (h36 : h[36]? = some (aI 4 me)) (h37 : h[37]? = some (aI 60 se0)) (hm : lm me ms) (m : Nat) (hm3 : m ≤ 3) (fr : Nat) (hfr : fr < ms.length) (s0 : Nat → Int) (s4 : s0 (15 * m + 4) = ((ms.getD fr []).length : Int) + 1) (qq : Nat → Int) (vb k s : Int) (Q : zQ) (hQ : ∀ se sum y, lle s0 se m ((ms.getD fr []).length + 1) (ylw (ms.getD fr [])) → Go 113 289 [vR 34, vR 35, vR 36, vR 37, vI vb, vI fr, vI k, vI (15 * (m : Int)), vI s, vI (-6), vI sum, vI (((ms.getD fr []).length + 1 : Nat) : Int), y] [] (hhS h qq se) Q) : ∀ (d j : Nat) (sum : Int) (y : zV) (se : Nat → Int), j + d = (ms.getD fr []).length + 1 → (j ≤ (ms.getD fr []).length → sum = ysum (ltr (ms.getD fr [])) j) → lle s0 se m j (ylw (ms.getD fr [])) → Go 113 182 [vR 34, vR 35, vR 36, vR 37, vI vb, vI fr, vI k, vI (15 * (m : Int)), vI s, vI (-6), vI sum, vI j, y] [] (hhS h qq se) Q := by
  intro d
  have l4 := hm.1
  have g4 := y4_of hm.2.1 (k := fr) hfr
  have g5 := hm.2.2 fr hfr
  generalize hw : ms.getD fr [] = w at *
  have w4 := g4.2
  have w1 := g4.1.1.1
  have t4 : (15 * (m : Int) + 4).toNat = 15 * m + 4 := by omega
  have k37 := fun s => hS_37 (h := h) h37 qq s
  have k36 := fun s => (hS_n (h := h) (t := 36) (by omega) (by omega) qq s).trans h36
  have k37s := hS_s37 (h := h) qq
  have tf : ((fr : Int)).toNat = fr := Int.toNat_natCast fr
  induction d with
  | zero =>
    intro j sum y se hj hsum hl
    obtain rfl : j = w.length + 1 := by omega
    have e4 : se (15 * m + 4) = (w.length : Int) + 1 := by rw [hl.1 _ (by omega)]; exact s4
    have c3 := hQ se sum y hl
    have n4 : ((w.length + 1 : Nat) : Int) = (w.length : Int) + 1 := by omega
    rw [n4] at c3 ⊢
    refine Go_on (fun p => p == 289) 400 ?_; simp only [Ge_s, eM_s, zct_0, zct_I, zct_P, zct_J, eX_iconst, eX_ldc2w, eX_iload, eX_lload, eX_aload, eX_istore, eX_lstore, eX_astore, eX_iinc, eX_iadd, eX_isub, eX_imul, eX_idiv, eX_irem, eX_iand, eX_ishl, eX_ishr, eX_ixor, eX_ineg, eX_dupx2, eX_pop2, eX_land, eX_lor, eX_lshl, eX_lushr, eX_lcmp, eX_i2l, eX_l2i, eX_dup, eX_dup2, eX_ifCond, eX_ificmp, eX_goto, eX_ifnonnull, eX_tableswitch, eX_invokeinterface, eX_multianewarray, eX_getstatic, eX_iaload, eX_laload, eX_baload, eX_aaload, eX_iastore, eX_bastore, eX_lastore, eX_aastore, eX_arraylength, eX_new, eX_newarray, eX_anewarray, eX_invokevirtual, eX_invokestatic, eX_invokespecial, eX_pop, eX_invokedynamic, eX_ireturn, eX_freturn, eX_lreturn, eX_return, eI_s, eJ_s, eP_s, eSI_s, eSJ_s, eSP_s, eInc_s, eAdd_s, eSub_s, eMul_s, eDiv_s, eRem_s, eAnd_s, eXor_s, eNeg_s, eIshl_s, eIshr_s, eDx2_s, ePo2_s, zan_31, zan_255, zan_1, zan_15, zan_m, eLand_s, eLor_s, eLshl_s, eLushr_s, eLcmp_s, eI2l_s, eL2i_s, eDup_s, eDup2_s, eIf_s, eIc_s, eBr_eq, eBr_ne, eBr_lt, eBr_ge, eBr_gt, eBr_le, eNn_s, eNn_n, eG3_s, eG2_s, eGf_s, eP2_s, ePf_s, eAI2_s, eAZ2_s, eAJ2_s, eAQ2_s, eAI_s, eAZ_s, eAJ_s, eAQ_s, eXI2_s, eXZ2_s, eXJ2_s, eXQ2_s, eXI_s, eXZ_s, eXJ_s, eXQ_s, eL2_s, eLn_s, eNa_i, eNa_z, eNa_j, eNq_s, eK_s, eK_n, eR2_s, eRv_s, eRi_s, eCv_s, eCs_s, eCi_s, ePop_s, eMx_s, eMn_s, eCp_s, eCp2_i, eCp2_j, eJd_1, eJd_2, eJd_3, eRI_s, eRZ_s, eRJ_s, eRV_s, zsg_s, zsg_n, zsg_c, List.set_set, Option.map_some, ne_eq, not_false_eq_true, zfit_0, zfit_1, zfit_12, zkd, ↓reduceIte, zc1_I, zc1_P, zset1, zset2, zclr, List.getElem?_cons_zero, List.getElem?_cons_succ, List.set_cons_zero, List.set_cons_succ, List.length_cons, List.length_nil, List.take_succ_cons, List.take_zero, List.drop_succ_cons, List.drop_zero, List.reverse_cons, List.reverse_nil, List.nil_append, List.cons_append, Option.toList_some, Option.toList_none, Nat.reduceAdd, Nat.reduceSub, Nat.reduceLeDiff, Nat.reduceBEq, Nat.reduceEqDiff, Int.reduceToNat, Bool.or_false, Bool.false_or, Bool.or_true, Bool.true_or, Bool.false_eq_true, if_true, if_false, ite_true, ite_false, and_true, true_and, and_self, reduceCtorEq, Int.reduceLT, Int.reduceLE, Int.reduceNeg, Int.reduceAdd, Int.reduceSub, Int.reduceMul, Nat.le_refl, or_true, true_or, or_self, Int.reduceEq, za_113_0, za_113_1, k37, t4, e4, Int.lt_irrefl]
    ((try unfold zr); (try unfold zix); (repeat' first | exact trivial | assumption | (with_reducible rfl) | omega | (refine And.intro ?_ ?_)))
  | succ d ih =>
    intro j sum y se hj hsum hl
    have e4 : se (15 * m + 4) = (w.length : Int) + 1 := by rw [hl.1 _ (by omega)]; exact s4
    have e1 : (j : Int) < (w.length : Int) + 1 := by omega
    have hs := hsum (by omega)
    have t5 : (15 * (m : Int) + 5 + (j : Int)).toNat = 15 * m + 5 + j := by omega
    have t10 : (15 * (m : Int) + 10 + (j : Int)).toNat = 15 * m + 10 + j := by omega
    have e9 : (w.length : Int) + 1 - 1 = w.length := by omega
    have sr : 0 ≤ sum ∧ sum ≤ 20 * (j : Int) := by
      rw [hs]
      have key : ∀ t : Nat, 0 ≤ ysum (ltr w) t ∧ ysum (ltr w) t ≤ 20 * (t : Int) := by
        intro t
        induction t with
        | zero => exact ⟨Int.le_refl _, by show (0 : Int) ≤ 20 * ((0 : Nat) : Int); omega⟩
        | succ t iht =>
          have r := ltr_r w g4.1.2 t
          show 0 ≤ ysum (ltr w) t + ltr w t ∧ ysum (ltr w) t + ltr w t ≤ 20 * ((t + 1 : Nat) : Int)
          omega
      exact key j
    by_cases c : j = w.length
    · have c1 : (j : Int) = (w.length : Int) := by omega
      have ev : ylw w j = 6 + sum.tmod 20 := by
        rw [tm_nn sr.1, hs]
        unfold ylw
        rw [if_neg (by omega), c]
      have c3 := ih (j + 1) (sum + (ylw w j - 6)) (vI (ylw w j)) _ (by omega) (fun z => by omega) (lle_s (by omega) hl)
      rw [ev] at c3
      have c1 := eq_true c1
      refine Go_on (fun p => p == 182) 400 ?_; simp only [Ge_s, eM_s, zct_0, zct_I, zct_P, zct_J, eX_iconst, eX_ldc2w, eX_iload, eX_lload, eX_aload, eX_istore, eX_lstore, eX_astore, eX_iinc, eX_iadd, eX_isub, eX_imul, eX_idiv, eX_irem, eX_iand, eX_ishl, eX_ishr, eX_ixor, eX_ineg, eX_dupx2, eX_pop2, eX_land, eX_lor, eX_lshl, eX_lushr, eX_lcmp, eX_i2l, eX_l2i, eX_dup, eX_dup2, eX_ifCond, eX_ificmp, eX_goto, eX_ifnonnull, eX_tableswitch, eX_invokeinterface, eX_multianewarray, eX_getstatic, eX_iaload, eX_laload, eX_baload, eX_aaload, eX_iastore, eX_bastore, eX_lastore, eX_aastore, eX_arraylength, eX_new, eX_newarray, eX_anewarray, eX_invokevirtual, eX_invokestatic, eX_invokespecial, eX_pop, eX_invokedynamic, eX_ireturn, eX_freturn, eX_lreturn, eX_return, eI_s, eJ_s, eP_s, eSI_s, eSJ_s, eSP_s, eInc_s, eAdd_s, eSub_s, eMul_s, eDiv_s, eRem_s, eAnd_s, eXor_s, eNeg_s, eIshl_s, eIshr_s, eDx2_s, ePo2_s, zan_31, zan_255, zan_1, zan_15, zan_m, eLand_s, eLor_s, eLshl_s, eLushr_s, eLcmp_s, eI2l_s, eL2i_s, eDup_s, eDup2_s, eIf_s, eIc_s, eBr_eq, eBr_ne, eBr_lt, eBr_ge, eBr_gt, eBr_le, eNn_s, eNn_n, eG3_s, eG2_s, eGf_s, eP2_s, ePf_s, eAI2_s, eAZ2_s, eAJ2_s, eAQ2_s, eAI_s, eAZ_s, eAJ_s, eAQ_s, eXI2_s, eXZ2_s, eXJ2_s, eXQ2_s, eXI_s, eXZ_s, eXJ_s, eXQ_s, eL2_s, eLn_s, eNa_i, eNa_z, eNa_j, eNq_s, eK_s, eK_n, eR2_s, eRv_s, eRi_s, eCv_s, eCs_s, eCi_s, ePop_s, eMx_s, eMn_s, eCp_s, eCp2_i, eCp2_j, eJd_1, eJd_2, eJd_3, eRI_s, eRZ_s, eRJ_s, eRV_s, zsg_s, zsg_n, zsg_c, List.set_set, Option.map_some, ne_eq, not_false_eq_true, zfit_0, zfit_1, zfit_12, zkd, ↓reduceIte, zc1_I, zc1_P, zset1, zset2, zclr, List.getElem?_cons_zero, List.getElem?_cons_succ, List.set_cons_zero, List.set_cons_succ, List.length_cons, List.length_nil, List.take_succ_cons, List.take_zero, List.drop_succ_cons, List.drop_zero, List.reverse_cons, List.reverse_nil, List.nil_append, List.cons_append, Option.toList_some, Option.toList_none, Nat.reduceAdd, Nat.reduceSub, Nat.reduceLeDiff, Nat.reduceBEq, Nat.reduceEqDiff, Int.reduceToNat, Bool.or_false, Bool.false_or, Bool.or_true, Bool.true_or, Bool.false_eq_true, if_true, if_false, ite_true, ite_false, and_true, true_and, and_self, reduceCtorEq, Int.reduceLT, Int.reduceLE, Int.reduceNeg, Int.reduceAdd, Int.reduceSub, Int.reduceMul, Nat.le_refl, or_true, true_or, or_self, Int.reduceEq, za_113_0, za_113_1, k37, k37s, t4, e4, e1, e9, c1, t5, t10]
      ((try unfold zr); (try unfold zix); (repeat' first | exact trivial | assumption | (with_reducible rfl) | omega | (refine And.intro ?_ ?_)))
    · have c1 : ¬ (j : Int) = (w.length : Int) := by omega
      have ev : ylw w j = 6 + ltr w j := by
        unfold ylw
        rw [if_pos (by omega)]
      have b1 := l_letter (h := hhS h qq se) g4 j (by omega)
      have c3 := ih (j + 1) (sum + (ylw w j - 6)) (vI (ylw w j)) _ (by omega) (fun z => by
        rw [hs, ev]
        show _ = ysum (ltr w) j + ltr w j
        omega) (lle_s (by omega) hl)
      rw [ev] at c3
      refine Go_on (fun p => p == 182) 400 ?_; simp only [Ge_s, eM_s, zct_0, zct_I, zct_P, zct_J, eX_iconst, eX_ldc2w, eX_iload, eX_lload, eX_aload, eX_istore, eX_lstore, eX_astore, eX_iinc, eX_iadd, eX_isub, eX_imul, eX_idiv, eX_irem, eX_iand, eX_ishl, eX_ishr, eX_ixor, eX_ineg, eX_dupx2, eX_pop2, eX_land, eX_lor, eX_lshl, eX_lushr, eX_lcmp, eX_i2l, eX_l2i, eX_dup, eX_dup2, eX_ifCond, eX_ificmp, eX_goto, eX_ifnonnull, eX_tableswitch, eX_invokeinterface, eX_multianewarray, eX_getstatic, eX_iaload, eX_laload, eX_baload, eX_aaload, eX_iastore, eX_bastore, eX_lastore, eX_aastore, eX_arraylength, eX_new, eX_newarray, eX_anewarray, eX_invokevirtual, eX_invokestatic, eX_invokespecial, eX_pop, eX_invokedynamic, eX_ireturn, eX_freturn, eX_lreturn, eX_return, eI_s, eJ_s, eP_s, eSI_s, eSJ_s, eSP_s, eInc_s, eAdd_s, eSub_s, eMul_s, eDiv_s, eRem_s, eAnd_s, eXor_s, eNeg_s, eIshl_s, eIshr_s, eDx2_s, ePo2_s, zan_31, zan_255, zan_1, zan_15, zan_m, eLand_s, eLor_s, eLshl_s, eLushr_s, eLcmp_s, eI2l_s, eL2i_s, eDup_s, eDup2_s, eIf_s, eIc_s, eBr_eq, eBr_ne, eBr_lt, eBr_ge, eBr_gt, eBr_le, eNn_s, eNn_n, eG3_s, eG2_s, eGf_s, eP2_s, ePf_s, eAI2_s, eAZ2_s, eAJ2_s, eAQ2_s, eAI_s, eAZ_s, eAJ_s, eAQ_s, eXI2_s, eXZ2_s, eXJ2_s, eXQ2_s, eXI_s, eXZ_s, eXJ_s, eXQ_s, eL2_s, eLn_s, eNa_i, eNa_z, eNa_j, eNq_s, eK_s, eK_n, eR2_s, eRv_s, eRi_s, eCv_s, eCs_s, eCi_s, ePop_s, eMx_s, eMn_s, eCp_s, eCp2_i, eCp2_j, eJd_1, eJd_2, eJd_3, eRI_s, eRZ_s, eRJ_s, eRV_s, zsg_s, zsg_n, zsg_c, List.set_set, Option.map_some, ne_eq, not_false_eq_true, zfit_0, zfit_1, zfit_12, zkd, ↓reduceIte, zc1_I, zc1_P, zset1, zset2, zclr, List.getElem?_cons_zero, List.getElem?_cons_succ, List.set_cons_zero, List.set_cons_succ, List.length_cons, List.length_nil, List.take_succ_cons, List.take_zero, List.drop_succ_cons, List.drop_zero, List.reverse_cons, List.reverse_nil, List.nil_append, List.cons_append, Option.toList_some, Option.toList_none, Nat.reduceAdd, Nat.reduceSub, Nat.reduceLeDiff, Nat.reduceBEq, Nat.reduceEqDiff, Int.reduceToNat, Bool.or_false, Bool.false_or, Bool.or_true, Bool.true_or, Bool.false_eq_true, if_true, if_false, ite_true, ite_false, and_true, true_and, and_self, reduceCtorEq, Int.reduceLT, Int.reduceLE, Int.reduceNeg, Int.reduceAdd, Int.reduceSub, Int.reduceMul, Nat.le_refl, or_true, true_or, or_self, Int.reduceEq, za_113_0, za_113_1, zf_105, k37, k36, k37s, t4, e4, e1, e9, c1, t5, t10, tf, g5, b1]
      ((try unfold zr); (try unfold zix); (repeat' first | exact trivial | assumption | (with_reducible rfl) | omega | (refine And.intro ?_ ?_)))
end
