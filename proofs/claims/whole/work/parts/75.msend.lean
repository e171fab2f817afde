/-! The model: a sent word is written -/
/-- the row of the state, once a word is written at its place -/
def wrt (f f2 : Nat → Int) (w : Nat) (co pa : Int) (l : List Nat) : Prop := (∀ u, u < 727 + 31 * w ∨ 727 + 31 * w + 31 ≤ u → f2 u = f u) ∧ (f2 (727 + 31 * w + 0) = f (727 + 31 * w + 0) ∧ f2 (727 + 31 * w + 1) = f (727 + 31 * w + 1)) ∧ (f2 (727 + 31 * w + 2) = co ∧ f2 (727 + 31 * w + 3) = pa ∧ f2 (727 + 31 * w + 4) = l.length) ∧ ∀ j, j < l.length → f2 (727 + 31 * w + (5 + j)) = (l.getD j 0 : Nat) ∧ f2 (727 + 31 * w + (18 + j)) = (l.getD j 0 : Nat)
/-- so many letters are written -/
def wlt (f f2 : Nat → Int) (w n : Nat) (l : List Nat) : Prop := (∀ u, u < 727 + 31 * w + 5 ∨ 727 + 31 * w + 31 ≤ u → f2 u = f u) ∧ ∀ j, j < n → f2 (727 + 31 * w + (5 + j)) = (l.getD j 0 : Nat) ∧ f2 (727 + 31 * w + (18 + j)) = (l.getD j 0 : Nat)
set_option maxRecDepth 100000 in
theorem wlt_up {f f2 : Nat → Int} {w n : Nat} {l : List Nat} (h : wlt f f2 w n l) (hn : n < 13) (v : Int) (hv : v = (l.getD n 0 : Nat)) : wlt f (va_up (va_up f2 (727 + 31 * w + (5 + n)) v) (727 + 31 * w + (18 + n)) v) w (n + 1) l := by
  refine ⟨fun u hu => ?_, fun j hj => ?_⟩
  · rw [y_up, y_up, if_neg (by omega), if_neg (by omega)]
    exact h.1 u hu
  · rw [y_up, y_up, y_up, y_up]
    by_cases c : j = n
    · subst c
      rw [if_neg (by omega), if_pos rfl, if_pos rfl]
      exact ⟨hv, hv⟩
    · rw [if_neg (by omega), if_neg (by omega), if_neg (by omega), if_neg (by omega)]
      exact h.2 j (by omega)
set_option maxRecDepth 100000 in
theorem wlt_end {f f2 : Nat → Int} {w : Nat} {l : List Nat} (h : wlt f f2 w l.length l) (hl : l.length ≤ 13) (co pa len : Int) (hlen : len = l.length) : wrt f (va_up (va_up (va_up f2 (727 + 31 * w + 4) len) (727 + 31 * w + 3) pa) (727 + 31 * w + 2) co) w co pa l := by
  have e : ∀ u, u ≠ 727 + 31 * w + 2 → u ≠ 727 + 31 * w + 3 → u ≠ 727 + 31 * w + 4 → va_up (va_up (va_up f2 (727 + 31 * w + 4) len) (727 + 31 * w + 3) pa) (727 + 31 * w + 2) co u = f2 u := fun u h1 h2 h3 => by
    rw [y_up, y_up, y_up, if_neg h1, if_neg h2, if_neg h3]
  refine ⟨fun u hu => ?_, ⟨?_, ?_⟩, ⟨?_, ?_, ?_⟩, fun j hj => ⟨?_, ?_⟩⟩
  · rw [e u (by omega) (by omega) (by omega)]; exact h.1 u (by omega)
  · rw [e _ (by omega) (by omega) (by omega)]; exact h.1 _ (by omega)
  · rw [e _ (by omega) (by omega) (by omega)]; exact h.1 _ (by omega)
  · rw [y_up, if_pos rfl]
  · rw [y_up, y_up, if_neg (by omega), if_pos rfl]
  · rw [y_up, y_up, y_up, if_neg (by omega), if_neg (by omega), if_pos rfl]; exact hlen
  · rw [e _ (by omega) (by omega) (by omega)]; exact (h.2 j hj).1
  · rw [e _ (by omega) (by omega) (by omega)]; exact (h.2 j hj).2
section
variable {h : zH} {F F2 : Nat → Nat → Int} {J : Nat → Nat → Nat} {V V2 : Nat → Int} {P : Nat → Nat → Option Nat} {A : yA} {pd : List Int} {ms ws : yF} {S : yS} {f : Nat → Int} {co wi : Int} {bk : yB} {D : List yQ}
set_option maxRecDepth 100000 in
theorem m_setLetter2 (k : zKH h F J V P) (f : Nat → Int) (e p : Nat) (v : Int) (he : e < 12) (hp : p < 13) (Q : zQ) : Ca 129 [vR 34, vI e, vI p, vI v] (h.set 35 (aI 1099 f)) Q ↔ Q none (h.set 35 (aI 1099 (va_up (va_up f (727 + 31 * e + (5 + p)) v) (727 + 31 * e + (18 + p)) v))) := by
  have b := m_setLetter (ks_35 k f) e p v he hp Q
  rw [List.set_set] at b
  exact b
set_option maxRecDepth 100000 in
theorem m_setWord2 (k : zKH h F J V P) (f : Nat → Int) (e p : Nat) (v : Int) (hp : 727 + 31 * e + p < 1099) (Q : zQ) : Ca 128 [vR 34, vI e, vI p, vI v] (h.set 35 (aI 1099 f)) Q ↔ Q none (h.set 35 (aI 1099 (va_up f (727 + 31 * e + p) v))) := by
  have b := m_setWord (ks_35 k f) e p v hp Q
  rw [List.set_set] at b
  exact b
set_option maxRecDepth 100000 in
theorem m_sendPlain_l (k : zKH h F J V P) (xX : rX F V ms) (w i : Nat) (hw : w < 12) (hi : i < ms.length) (hs : F 35 0 = co ∧ F 35 1 = wi) (hco : 2 ≤ wi ∧ wi ≤ 15) (Q : zQ) (hQ : ∀ f2, wrt (F 35) f2 w 0 (ypc co wi (ms.getD i []).length) (ypw (ms.getD i [])) → Q none (h.set 35 (aI 1099 f2))) : ∀ (d j : Nat) (f : Nat → Int) (x : zV), j + d = (ms.getD i []).length → wlt (F 35) f w j (ypw (ms.getD i [])) → Go 130 5 [vR 34, vI w, vI i, vI (ysum (ltr (ms.getD i [])) j), vI j, x] [] (h.set 35 (aI 1099 f)) Q := by
  have hm := xX.2.2.1.2.2
  have m12 := xX.2.2.1.2.1
  have wd := ywd_ok hm (i : Int)
  rw [ywd_nat] at wd
  have e4 : ((i : Int)).toNat = i := by omega
  have f42 := (xX.2.2.2 i hi).2
  have f41 := (xX.2.2.2 i hi).1
  intro d
  induction d with
  | zero =>
    intro j f x hj hf
    obtain rfl : j = (ms.getD i []).length := by omega
    have k1 := ks_35 k f
    have rs := ysum_r (ltr_r (ms.getD i []) wd.1) (ms.getD i []).length
    have ew := ypw_at (ms.getD i []) (ms.getD i []).length (Nat.le_refl _)
    unfold ylw at ew
    rw [if_neg (Nat.lt_irrefl _)] at ew
    have b1 := m_setLetter2 k f w (ms.getD i []).length (6 + ysum (ltr (ms.getD i [])) (ms.getD i []).length % 20) hw (by omega)
    have hf1 := wlt_up hf (by omega) (6 + ysum (ltr (ms.getD i [])) (ms.getD i []).length % 20) ew.symm
    generalize va_up (va_up f (727 + 31 * w + (5 + (ms.getD i []).length)) (6 + ysum (ltr (ms.getD i [])) (ms.getD i []).length % 20)) (727 + 31 * w + (18 + (ms.getD i []).length)) (6 + ysum (ltr (ms.getD i [])) (ms.getD i []).length % 20) = f1 at *
    have b2 := m_setWord2 k f1 w 4 (((ms.getD i []).length : Int) + 1) (by omega)
    have k2 := ks_35 k (va_up f1 (727 + 31 * w + 4) (((ms.getD i []).length : Int) + 1))
    have lp := ypw_len (ms.getD i [])
    have h0 : va_up f1 (727 + 31 * w + 4) (((ms.getD i []).length : Int) + 1) 0 = co := by rw [y_up, if_neg (by omega), hf1.1 0 (by omega)]; exact hs.1
    have h1 : va_up f1 (727 + 31 * w + 4) (((ms.getD i []).length : Int) + 1) 1 = wi := by rw [y_up, if_neg (by omega), hf1.1 1 (by omega)]; exact hs.2
    have b3 := m_plainCost k2 (co := co) (wi := wi) ⟨h0, h1⟩ hco (ms.getD i []).length (by omega)
    have b4 := m_setWord2 k (va_up f1 (727 + 31 * w + 4) (((ms.getD i []).length : Int) + 1)) w 3 (ypc co wi (ms.getD i []).length) (by omega)
    have b5 := m_setWord2 k (va_up (va_up f1 (727 + 31 * w + 4) (((ms.getD i []).length : Int) + 1)) (727 + 31 * w + 3) (ypc co wi (ms.getD i []).length)) w 2 0 (by omega)
    have t4 : ((4 : Nat) : Int) = 4 := rfl
    have t3 : ((3 : Nat) : Int) = 3 := rfl
    have t2 : ((2 : Nat) : Int) = 2 := rfl
    rw [t4] at b2
    rw [t3] at b4
    rw [t2] at b5
    have c3 := hQ _ (wlt_end (by rw [lp]; exact hf1) (by omega) 0 (ypc co wi (ms.getD i []).length) (((ms.getD i []).length : Int) + 1) (by rw [lp]; rfl))
    refine Go_on (fun _ => false) 400 ?_; simp only [Ge_s, eM_s, zct_0, zct_I, zct_P, zct_J, eX_iconst, eX_ldc2w, eX_iload, eX_lload, eX_aload, eX_istore, eX_lstore, eX_astore, eX_iinc, eX_iadd, eX_isub, eX_imul, eX_idiv, eX_irem, eX_iand, eX_land, eX_lor, eX_lshl, eX_lushr, eX_lcmp, eX_i2l, eX_l2i, eX_dup, eX_dup2, eX_ifCond, eX_ificmp, eX_goto, eX_ifnonnull, eX_tableswitch, eX_invokeinterface, eX_multianewarray, eX_getstatic, eX_iaload, eX_laload, eX_baload, eX_aaload, eX_iastore, eX_bastore, eX_lastore, eX_aastore, eX_arraylength, eX_new, eX_newarray, eX_anewarray, eX_invokevirtual, eX_invokestatic, eX_invokespecial, eX_pop, eX_invokedynamic, eX_ireturn, eX_freturn, eX_lreturn, eX_return, eI_s, eJ_s, eP_s, eSI_s, eSJ_s, eSP_s, eInc_s, eAdd_s, eSub_s, eMul_s, eDiv_s, eRem_s, eAnd_s, eLand_s, eLor_s, eLshl_s, eLushr_s, eLcmp_s, eI2l_s, eL2i_s, eDup_s, eDup2_s, eIf_s, eIc_s, eBr_eq, eBr_ne, eBr_lt, eBr_ge, eBr_gt, eBr_le, eNn_s, eNn_n, eG3_s, eG2_s, eGf_s, eP2_s, ePf_s, eAI2_s, eAZ2_s, eAJ2_s, eAQ2_s, eAI_s, eAZ_s, eAJ_s, eAQ_s, eXI2_s, eXZ2_s, eXJ2_s, eXQ2_s, eXI_s, eXZ_s, eXJ_s, eXQ_s, eL2_s, eLn_s, eNa_i, eNa_z, eNa_j, eNq_s, eK_s, eK_n, eR2_s, eRv_s, eRi_s, eCv_s, eCs_s, eCi_s, ePop_s, eMx_s, eMn_s, eCp_s, eCp2_i, eCp2_j, eJd_1, eJd_2, eJd_3, eRI_s, eRZ_s, eRJ_s, eRV_s, zsg_s, zsg_n, zsg_c, List.set_set, Option.map_some, ne_eq, not_false_eq_true, zfit_0, zfit_1, zfit_12, zkd, ↓reduceIte, zc1_I, zc1_P, zset1, zset2, zclr, List.getElem?_cons_zero, List.getElem?_cons_succ, List.set_cons_zero, List.set_cons_succ, List.length_cons, List.length_nil, List.take_succ_cons, List.take_zero, List.drop_succ_cons, List.drop_zero, List.reverse_cons, List.reverse_nil, List.nil_append, List.cons_append, Option.toList_some, Option.toList_none, Nat.reduceAdd, Nat.reduceSub, Nat.reduceLeDiff, Nat.reduceBEq, Nat.reduceEqDiff, Int.reduceToNat, Bool.or_false, Bool.false_or, Bool.or_true, Bool.true_or, Bool.false_eq_true, if_true, if_false, ite_true, ite_false, and_true, true_and, and_self, reduceCtorEq, Int.reduceLT, Int.reduceLE, Int.reduceNeg, Int.reduceAdd, Int.reduceSub, Int.reduceMul, Nat.le_refl, or_true, true_or, or_self, Int.reduceEq, za_130, zf_129, zf_128, zf_119, kh_34 k, kh_42 k, e4, f42, Int.lt_irrefl, tm_nn rs.1, b1, b2, b3, b4, b5]
    ((try unfold zr); (try unfold zix); (repeat' first | exact trivial | assumption | (with_reducible rfl) | omega | (refine And.intro ?_ ?_)))
  | succ d ih =>
    intro j f x hj hf
    have e1 : (j : Int) < (ms.getD i []).length := by omega
    have l1 := yst_le ms (i + 1) ms.length (by omega)
    have ey : yst ms (i + 1) = yst ms i + (ms.getD i []).length + 1 := rfl
    have l2 := ytx_len ms (fun z => by rw [z] at hi; simp at hi)
    have x80 := xX.1.2
    have e2 : ((yst ms i : Nat) : Int) + j = ((yst ms i + j : Nat) : Int) := by omega
    have e3 : (((yst ms i + j : Nat) : Int)).toNat = yst ms i + j := by omega
    have f40 : F 40 (yst ms i + j) = ltr (ms.getD i []) j + 103 := by rw [xX.2.1 _ (by omega)]; exact ytx_at ms i j hi (by omega)
    have a2 := ltr_r (ms.getD i []) wd.1 j
    have e5 : ltr (ms.getD i []) j + 103 - 97 = ltr (ms.getD i []) j + 6 := by omega
    have e6 : ltr (ms.getD i []) j + 6 - 6 = ltr (ms.getD i []) j := by omega
    have ew := ypw_at (ms.getD i []) j (by omega)
    unfold ylw at ew
    rw [if_pos (by omega)] at ew
    have b1 := m_setLetter2 k f w j (ltr (ms.getD i []) j + 6) hw (by omega)
    have c3 := ih (j + 1) _ (vI (ltr (ms.getD i []) j + 6)) (by omega) (wlt_up hf (by omega) (ltr (ms.getD i []) j + 6) (by omega))
    have ee : ysum (ltr (ms.getD i [])) (j + 1) = ysum (ltr (ms.getD i [])) j + ltr (ms.getD i []) j := rfl
    rw [ee] at c3
    refine Go_on (fun p => p == 5) 400 ?_; simp only [Ge_s, eM_s, zct_0, zct_I, zct_P, zct_J, eX_iconst, eX_ldc2w, eX_iload, eX_lload, eX_aload, eX_istore, eX_lstore, eX_astore, eX_iinc, eX_iadd, eX_isub, eX_imul, eX_idiv, eX_irem, eX_iand, eX_land, eX_lor, eX_lshl, eX_lushr, eX_lcmp, eX_i2l, eX_l2i, eX_dup, eX_dup2, eX_ifCond, eX_ificmp, eX_goto, eX_ifnonnull, eX_tableswitch, eX_invokeinterface, eX_multianewarray, eX_getstatic, eX_iaload, eX_laload, eX_baload, eX_aaload, eX_iastore, eX_bastore, eX_lastore, eX_aastore, eX_arraylength, eX_new, eX_newarray, eX_anewarray, eX_invokevirtual, eX_invokestatic, eX_invokespecial, eX_pop, eX_invokedynamic, eX_ireturn, eX_freturn, eX_lreturn, eX_return, eI_s, eJ_s, eP_s, eSI_s, eSJ_s, eSP_s, eInc_s, eAdd_s, eSub_s, eMul_s, eDiv_s, eRem_s, eAnd_s, eLand_s, eLor_s, eLshl_s, eLushr_s, eLcmp_s, eI2l_s, eL2i_s, eDup_s, eDup2_s, eIf_s, eIc_s, eBr_eq, eBr_ne, eBr_lt, eBr_ge, eBr_gt, eBr_le, eNn_s, eNn_n, eG3_s, eG2_s, eGf_s, eP2_s, ePf_s, eAI2_s, eAZ2_s, eAJ2_s, eAQ2_s, eAI_s, eAZ_s, eAJ_s, eAQ_s, eXI2_s, eXZ2_s, eXJ2_s, eXQ2_s, eXI_s, eXZ_s, eXJ_s, eXQ_s, eL2_s, eLn_s, eNa_i, eNa_z, eNa_j, eNq_s, eK_s, eK_n, eR2_s, eRv_s, eRi_s, eCv_s, eCs_s, eCi_s, ePop_s, eMx_s, eMn_s, eCp_s, eCp2_i, eCp2_j, eJd_1, eJd_2, eJd_3, eRI_s, eRZ_s, eRJ_s, eRV_s, zsg_s, zsg_n, zsg_c, List.set_set, Option.map_some, ne_eq, not_false_eq_true, zfit_0, zfit_1, zfit_12, zkd, ↓reduceIte, zc1_I, zc1_P, zset1, zset2, zclr, List.getElem?_cons_zero, List.getElem?_cons_succ, List.set_cons_zero, List.set_cons_succ, List.length_cons, List.length_nil, List.take_succ_cons, List.take_zero, List.drop_succ_cons, List.drop_zero, List.reverse_cons, List.reverse_nil, List.nil_append, List.cons_append, Option.toList_some, Option.toList_none, Nat.reduceAdd, Nat.reduceSub, Nat.reduceLeDiff, Nat.reduceBEq, Nat.reduceEqDiff, Int.reduceToNat, Bool.or_false, Bool.false_or, Bool.or_true, Bool.true_or, Bool.false_eq_true, if_true, if_false, ite_true, ite_false, and_true, true_and, and_self, reduceCtorEq, Int.reduceLT, Int.reduceLE, Int.reduceNeg, Int.reduceAdd, Int.reduceSub, Int.reduceMul, Nat.le_refl, or_true, true_or, or_self, Int.reduceEq, za_130, zf_129, kh_34 k, kh_40 k, kh_41 k, kh_42 k, e4, f42, f41, e1, e2, e3, f40, e5, e6, b1]
    ((try unfold zr); (try unfold zix); (repeat' first | exact trivial | assumption | (with_reducible rfl) | omega | (refine And.intro ?_ ?_)))
set_option maxRecDepth 100000 in
theorem m_sendPlain (k : zKH h F J V P) (xX : rX F V ms) (w i : Nat) (hw : w < 12) (hi : i < ms.length) (hs : F 35 0 = co ∧ F 35 1 = wi) (hco : 2 ≤ wi ∧ wi ≤ 15) (Q : zQ) (hQ : ∀ f2, wrt (F 35) f2 w 0 (ypc co wi (ms.getD i []).length) (ypw (ms.getD i [])) → Q none (h.set 35 (aI 1099 f2))) : Ca 130 [vR 34, vI w, vI i] h Q := by
  have c3 := m_sendPlain_l k xX w i hw hi hs hco Q hQ (ms.getD i []).length 0 (F 35) vU (by omega) ⟨fun _ _ => rfl, fun j hj => absurd hj (by omega)⟩
  rw [zsg_i (kh_35 k)] at c3
  rw [ce_130, ← Ge_eq (fun p => p == 5) 130 _ 400]; simp only [Ge_s, eM_s, zct_0, zct_I, zct_P, zct_J, eX_iconst, eX_ldc2w, eX_iload, eX_lload, eX_aload, eX_istore, eX_lstore, eX_astore, eX_iinc, eX_iadd, eX_isub, eX_imul, eX_idiv, eX_irem, eX_iand, eX_land, eX_lor, eX_lshl, eX_lushr, eX_lcmp, eX_i2l, eX_l2i, eX_dup, eX_dup2, eX_ifCond, eX_ificmp, eX_goto, eX_ifnonnull, eX_tableswitch, eX_invokeinterface, eX_multianewarray, eX_getstatic, eX_iaload, eX_laload, eX_baload, eX_aaload, eX_iastore, eX_bastore, eX_lastore, eX_aastore, eX_arraylength, eX_new, eX_newarray, eX_anewarray, eX_invokevirtual, eX_invokestatic, eX_invokespecial, eX_pop, eX_invokedynamic, eX_ireturn, eX_freturn, eX_lreturn, eX_return, eI_s, eJ_s, eP_s, eSI_s, eSJ_s, eSP_s, eInc_s, eAdd_s, eSub_s, eMul_s, eDiv_s, eRem_s, eAnd_s, eLand_s, eLor_s, eLshl_s, eLushr_s, eLcmp_s, eI2l_s, eL2i_s, eDup_s, eDup2_s, eIf_s, eIc_s, eBr_eq, eBr_ne, eBr_lt, eBr_ge, eBr_gt, eBr_le, eNn_s, eNn_n, eG3_s, eG2_s, eGf_s, eP2_s, ePf_s, eAI2_s, eAZ2_s, eAJ2_s, eAQ2_s, eAI_s, eAZ_s, eAJ_s, eAQ_s, eXI2_s, eXZ2_s, eXJ2_s, eXQ2_s, eXI_s, eXZ_s, eXJ_s, eXQ_s, eL2_s, eLn_s, eNa_i, eNa_z, eNa_j, eNq_s, eK_s, eK_n, eR2_s, eRv_s, eRi_s, eCv_s, eCs_s, eCi_s, ePop_s, eMx_s, eMn_s, eCp_s, eCp2_i, eCp2_j, eJd_1, eJd_2, eJd_3, eRI_s, eRZ_s, eRJ_s, eRV_s, zsg_s, zsg_n, zsg_c, List.set_set, Option.map_some, ne_eq, not_false_eq_true, zfit_0, zfit_1, zfit_12, zkd, ↓reduceIte, zc1_I, zc1_P, zset1, zset2, zclr, List.getElem?_cons_zero, List.getElem?_cons_succ, List.set_cons_zero, List.set_cons_succ, List.length_cons, List.length_nil, List.take_succ_cons, List.take_zero, List.drop_succ_cons, List.drop_zero, List.reverse_cons, List.reverse_nil, List.nil_append, List.cons_append, Option.toList_some, Option.toList_none, Nat.reduceAdd, Nat.reduceSub, Nat.reduceLeDiff, Nat.reduceBEq, Nat.reduceEqDiff, Int.reduceToNat, Bool.or_false, Bool.false_or, Bool.or_true, Bool.true_or, Bool.false_eq_true, if_true, if_false, ite_true, ite_false, and_true, true_and, and_self, reduceCtorEq, Int.reduceLT, Int.reduceLE, Int.reduceNeg, Int.reduceAdd, Int.reduceSub, Int.reduceMul, Nat.le_refl, or_true, true_or, or_self, Int.reduceEq, za_130]
  exact c3
set_option maxRecDepth 100000 in
theorem m_sendCode_l (k : zKH h F J V P) (w e c : Nat) (hw : w < 12) (he : e < 16) (hc : F 35 (87 + 40 * e + 0) = c ∧ c < 1296) (hs : F 35 0 = co) (Q : zQ) (hQ : ∀ f2, wrt (F 35) f2 w 1 co (ycw c) → Q none (h.set 35 (aI 1099 f2))) : ∀ (d j : Nat) (f : Nat → Int), j + d = 4 → wlt (F 35) f w j (ycw c) → Go 131 2 [vR 34, vI w, vI e, vI j] [] (h.set 35 (aI 1099 f)) Q := by
  intro d
  induction d with
  | zero =>
    intro j f hj hf
    obtain rfl : j = 4 := by omega
    have k1 := ks_35 k f
    have b2 := m_setWord2 k f w 4 4 (by omega)
    have k2 := ks_35 k (va_up f (727 + 31 * w + 4) 4)
    have g35 : (h.set 35 (aI 1099 (va_up f (727 + 31 * w + 4) 4)))[35]? = some (aI 1099 (va_up f (727 + 31 * w + 4) 4)) := kh_35 k2
    have h0 : va_up f (727 + 31 * w + 4) 4 0 = co := by rw [y_up, if_neg (by omega), hf.1 0 (by omega)]; exact hs
    have b4 := m_setWord2 k (va_up f (727 + 31 * w + 4) 4) w 3 co (by omega)
    have b5 := m_setWord2 k (va_up (va_up f (727 + 31 * w + 4) 4) (727 + 31 * w + 3) co) w 2 1 (by omega)
    have t4 : ((4 : Nat) : Int) = 4 := rfl
    have t3 : ((3 : Nat) : Int) = 3 := rfl
    have t2 : ((2 : Nat) : Int) = 2 := rfl
    rw [t4] at b2
    rw [t3] at b4
    rw [t2] at b5
    have c3 := hQ _ (wlt_end (l := ycw c) hf (by unfold ycw; simp) 1 co 4 rfl)
    refine Go_on (fun _ => false) 400 ?_; simp only [Ge_s, eM_s, zct_0, zct_I, zct_P, zct_J, eX_iconst, eX_ldc2w, eX_iload, eX_lload, eX_aload, eX_istore, eX_lstore, eX_astore, eX_iinc, eX_iadd, eX_isub, eX_imul, eX_idiv, eX_irem, eX_iand, eX_land, eX_lor, eX_lshl, eX_lushr, eX_lcmp, eX_i2l, eX_l2i, eX_dup, eX_dup2, eX_ifCond, eX_ificmp, eX_goto, eX_ifnonnull, eX_tableswitch, eX_invokeinterface, eX_multianewarray, eX_getstatic, eX_iaload, eX_laload, eX_baload, eX_aaload, eX_iastore, eX_bastore, eX_lastore, eX_aastore, eX_arraylength, eX_new, eX_newarray, eX_anewarray, eX_invokevirtual, eX_invokestatic, eX_invokespecial, eX_pop, eX_invokedynamic, eX_ireturn, eX_freturn, eX_lreturn, eX_return, eI_s, eJ_s, eP_s, eSI_s, eSJ_s, eSP_s, eInc_s, eAdd_s, eSub_s, eMul_s, eDiv_s, eRem_s, eAnd_s, eLand_s, eLor_s, eLshl_s, eLushr_s, eLcmp_s, eI2l_s, eL2i_s, eDup_s, eDup2_s, eIf_s, eIc_s, eBr_eq, eBr_ne, eBr_lt, eBr_ge, eBr_gt, eBr_le, eNn_s, eNn_n, eG3_s, eG2_s, eGf_s, eP2_s, ePf_s, eAI2_s, eAZ2_s, eAJ2_s, eAQ2_s, eAI_s, eAZ_s, eAJ_s, eAQ_s, eXI2_s, eXZ2_s, eXJ2_s, eXQ2_s, eXI_s, eXZ_s, eXJ_s, eXQ_s, eL2_s, eLn_s, eNa_i, eNa_z, eNa_j, eNq_s, eK_s, eK_n, eR2_s, eRv_s, eRi_s, eCv_s, eCs_s, eCi_s, ePop_s, eMx_s, eMn_s, eCp_s, eCp2_i, eCp2_j, eJd_1, eJd_2, eJd_3, eRI_s, eRZ_s, eRJ_s, eRV_s, zsg_s, zsg_n, zsg_c, List.set_set, Option.map_some, ne_eq, not_false_eq_true, zfit_0, zfit_1, zfit_12, zkd, ↓reduceIte, zc1_I, zc1_P, zset1, zset2, zclr, List.getElem?_cons_zero, List.getElem?_cons_succ, List.set_cons_zero, List.set_cons_succ, List.length_cons, List.length_nil, List.take_succ_cons, List.take_zero, List.drop_succ_cons, List.drop_zero, List.reverse_cons, List.reverse_nil, List.nil_append, List.cons_append, Option.toList_some, Option.toList_none, Nat.reduceAdd, Nat.reduceSub, Nat.reduceLeDiff, Nat.reduceBEq, Nat.reduceEqDiff, Int.reduceToNat, Bool.or_false, Bool.false_or, Bool.or_true, Bool.true_or, Bool.false_eq_true, if_true, if_false, ite_true, ite_false, and_true, true_and, and_self, reduceCtorEq, Int.reduceLT, Int.reduceLE, Int.reduceNeg, Int.reduceAdd, Int.reduceSub, Int.reduceMul, Nat.le_refl, or_true, true_or, or_self, Int.reduceEq, za_131, zf_128, kh_34 k, g35, h0, b2, b4, b5]
    ((try unfold zr); (try unfold zix); (repeat' first | exact trivial | assumption | (with_reducible rfl) | omega | (refine And.intro ?_ ?_)))
  | succ d ih =>
    intro j f hj hf
    have e1 : (j : Int) < 4 := by omega
    have k1 := ks_35 k f
    have b1 := m_entryPart k1 e 0 (by omega)
    have hc1 : f (87 + 40 * e + 0) = c := by rw [hf.1 _ (by omega)]; exact hc.1
    have b1 : ∀ Q, Ca 114 [vR 34, vI e, vI ((0 : Nat) : Int)] (h.set 35 (aI 1099 f)) Q ↔ Q (some (vI (f (87 + 40 * e + 0)))) (h.set 35 (aI 1099 f)) := b1
    have t0 : ((0 : Nat) : Int) = 0 := rfl
    rw [hc1, t0] at b1
    have b2 := m_digit (h := h.set 35 (aI 1099 f)) (c := (c : Int)) (p := j) (by omega) (by omega)
    have b3 := m_setLetter2 k f w j (dg c j) hw (by omega)
    have c3 := ih (j + 1) _ (by omega) (wlt_up hf (by omega) (dg c j) (ycw_at c j (by omega)).symm)
    refine Go_on (fun p => p == 2) 400 ?_; simp only [Ge_s, eM_s, zct_0, zct_I, zct_P, zct_J, eX_iconst, eX_ldc2w, eX_iload, eX_lload, eX_aload, eX_istore, eX_lstore, eX_astore, eX_iinc, eX_iadd, eX_isub, eX_imul, eX_idiv, eX_irem, eX_iand, eX_land, eX_lor, eX_lshl, eX_lushr, eX_lcmp, eX_i2l, eX_l2i, eX_dup, eX_dup2, eX_ifCond, eX_ificmp, eX_goto, eX_ifnonnull, eX_tableswitch, eX_invokeinterface, eX_multianewarray, eX_getstatic, eX_iaload, eX_laload, eX_baload, eX_aaload, eX_iastore, eX_bastore, eX_lastore, eX_aastore, eX_arraylength, eX_new, eX_newarray, eX_anewarray, eX_invokevirtual, eX_invokestatic, eX_invokespecial, eX_pop, eX_invokedynamic, eX_ireturn, eX_freturn, eX_lreturn, eX_return, eI_s, eJ_s, eP_s, eSI_s, eSJ_s, eSP_s, eInc_s, eAdd_s, eSub_s, eMul_s, eDiv_s, eRem_s, eAnd_s, eLand_s, eLor_s, eLshl_s, eLushr_s, eLcmp_s, eI2l_s, eL2i_s, eDup_s, eDup2_s, eIf_s, eIc_s, eBr_eq, eBr_ne, eBr_lt, eBr_ge, eBr_gt, eBr_le, eNn_s, eNn_n, eG3_s, eG2_s, eGf_s, eP2_s, ePf_s, eAI2_s, eAZ2_s, eAJ2_s, eAQ2_s, eAI_s, eAZ_s, eAJ_s, eAQ_s, eXI2_s, eXZ2_s, eXJ2_s, eXQ2_s, eXI_s, eXZ_s, eXJ_s, eXQ_s, eL2_s, eLn_s, eNa_i, eNa_z, eNa_j, eNq_s, eK_s, eK_n, eR2_s, eRv_s, eRi_s, eCv_s, eCs_s, eCi_s, ePop_s, eMx_s, eMn_s, eCp_s, eCp2_i, eCp2_j, eJd_1, eJd_2, eJd_3, eRI_s, eRZ_s, eRJ_s, eRV_s, zsg_s, zsg_n, zsg_c, List.set_set, Option.map_some, ne_eq, not_false_eq_true, zfit_0, zfit_1, zfit_12, zkd, ↓reduceIte, zc1_I, zc1_P, zset1, zset2, zclr, List.getElem?_cons_zero, List.getElem?_cons_succ, List.set_cons_zero, List.set_cons_succ, List.length_cons, List.length_nil, List.take_succ_cons, List.take_zero, List.drop_succ_cons, List.drop_zero, List.reverse_cons, List.reverse_nil, List.nil_append, List.cons_append, Option.toList_some, Option.toList_none, Nat.reduceAdd, Nat.reduceSub, Nat.reduceLeDiff, Nat.reduceBEq, Nat.reduceEqDiff, Int.reduceToNat, Bool.or_false, Bool.false_or, Bool.or_true, Bool.true_or, Bool.false_eq_true, if_true, if_false, ite_true, ite_false, and_true, true_and, and_self, reduceCtorEq, Int.reduceLT, Int.reduceLE, Int.reduceNeg, Int.reduceAdd, Int.reduceSub, Int.reduceMul, Nat.le_refl, or_true, true_or, or_self, Int.reduceEq, za_131, zf_114, zf_111, zf_129, kh_34 k, e1, b1, b2, b3]
    ((try unfold zr); (try unfold zix); (repeat' first | exact trivial | assumption | (with_reducible rfl) | omega | (refine And.intro ?_ ?_)))
set_option maxRecDepth 100000 in
theorem m_sendCode (k : zKH h F J V P) (w e c : Nat) (hw : w < 12) (he : e < 16) (hc : F 35 (87 + 40 * e + 0) = c ∧ c < 1296) (hs : F 35 0 = co) (Q : zQ) (hQ : ∀ f2, wrt (F 35) f2 w 1 co (ycw c) → Q none (h.set 35 (aI 1099 f2))) : Ca 131 [vR 34, vI w, vI e] h Q := by
  have c3 := m_sendCode_l k w e c hw he hc hs Q hQ 4 0 (F 35) (by omega) ⟨fun _ _ => rfl, fun j hj => absurd hj (by omega)⟩
  rw [zsg_i (kh_35 k)] at c3
  rw [ce_131, ← Ge_eq (fun p => p == 2) 131 _ 400]; simp only [Ge_s, eM_s, zct_0, zct_I, zct_P, zct_J, eX_iconst, eX_ldc2w, eX_iload, eX_lload, eX_aload, eX_istore, eX_lstore, eX_astore, eX_iinc, eX_iadd, eX_isub, eX_imul, eX_idiv, eX_irem, eX_iand, eX_land, eX_lor, eX_lshl, eX_lushr, eX_lcmp, eX_i2l, eX_l2i, eX_dup, eX_dup2, eX_ifCond, eX_ificmp, eX_goto, eX_ifnonnull, eX_tableswitch, eX_invokeinterface, eX_multianewarray, eX_getstatic, eX_iaload, eX_laload, eX_baload, eX_aaload, eX_iastore, eX_bastore, eX_lastore, eX_aastore, eX_arraylength, eX_new, eX_newarray, eX_anewarray, eX_invokevirtual, eX_invokestatic, eX_invokespecial, eX_pop, eX_invokedynamic, eX_ireturn, eX_freturn, eX_lreturn, eX_return, eI_s, eJ_s, eP_s, eSI_s, eSJ_s, eSP_s, eInc_s, eAdd_s, eSub_s, eMul_s, eDiv_s, eRem_s, eAnd_s, eLand_s, eLor_s, eLshl_s, eLushr_s, eLcmp_s, eI2l_s, eL2i_s, eDup_s, eDup2_s, eIf_s, eIc_s, eBr_eq, eBr_ne, eBr_lt, eBr_ge, eBr_gt, eBr_le, eNn_s, eNn_n, eG3_s, eG2_s, eGf_s, eP2_s, ePf_s, eAI2_s, eAZ2_s, eAJ2_s, eAQ2_s, eAI_s, eAZ_s, eAJ_s, eAQ_s, eXI2_s, eXZ2_s, eXJ2_s, eXQ2_s, eXI_s, eXZ_s, eXJ_s, eXQ_s, eL2_s, eLn_s, eNa_i, eNa_z, eNa_j, eNq_s, eK_s, eK_n, eR2_s, eRv_s, eRi_s, eCv_s, eCs_s, eCi_s, ePop_s, eMx_s, eMn_s, eCp_s, eCp2_i, eCp2_j, eJd_1, eJd_2, eJd_3, eRI_s, eRZ_s, eRJ_s, eRV_s, zsg_s, zsg_n, zsg_c, List.set_set, Option.map_some, ne_eq, not_false_eq_true, zfit_0, zfit_1, zfit_12, zkd, ↓reduceIte, zc1_I, zc1_P, zset1, zset2, zclr, List.getElem?_cons_zero, List.getElem?_cons_succ, List.set_cons_zero, List.set_cons_succ, List.length_cons, List.length_nil, List.take_succ_cons, List.take_zero, List.drop_succ_cons, List.drop_zero, List.reverse_cons, List.reverse_nil, List.nil_append, List.cons_append, Option.toList_some, Option.toList_none, Nat.reduceAdd, Nat.reduceSub, Nat.reduceLeDiff, Nat.reduceBEq, Nat.reduceEqDiff, Int.reduceToNat, Bool.or_false, Bool.false_or, Bool.or_true, Bool.true_or, Bool.false_eq_true, if_true, if_false, ite_true, ite_false, and_true, true_and, and_self, reduceCtorEq, Int.reduceLT, Int.reduceLE, Int.reduceNeg, Int.reduceAdd, Int.reduceSub, Int.reduceMul, Nat.le_refl, or_true, true_or, or_self, Int.reduceEq, za_131]
  exact c3
/-- the words that are written in the row of the state -/
def wws (f : Nat → Int) (ts : List yT) : Prop := ∀ w, w < ts.length → (f (727 + 31 * w + 0) = tfi (sw ts w) ∧ f (727 + 31 * w + 1) = tsp (sw ts w) ∧ f (727 + 31 * w + 2) = tco (sw ts w) ∧ f (727 + 31 * w + 3) = tpa (sw ts w) ∧ f (727 + 31 * w + 4) = (tor (sw ts w)).length) ∧ ∀ j, j < (tor (sw ts w)).length → f (727 + 31 * w + (5 + j)) = ((tor (sw ts w)).getD j 0 : Nat) ∧ f (727 + 31 * w + (18 + j)) = ((tor (sw ts w)).getD j 0 : Nat)
set_option maxRecDepth 100000 in
theorem wws_snoc {f f2 : Nat → Int} {ts : List yT} (hl : ∀ u, u < ts.length → (tor (sw ts u)).length ≤ 13) (w : wws f ts) (t : yT) (m : Nat) (hm : m = ts.length) (h0 : f2 (727 + 31 * m + 0) = tfi t) (h1 : f2 (727 + 31 * m + 1) = tsp t) (hb : (∀ u, u < 727 + 31 * m → f2 u = f u) ∧ (f2 (727 + 31 * m + 2) = tco t ∧ f2 (727 + 31 * m + 3) = tpa t ∧ f2 (727 + 31 * m + 4) = (tor t).length) ∧ ∀ j, j < (tor t).length → f2 (727 + 31 * m + (5 + j)) = ((tor t).getD j 0 : Nat) ∧ f2 (727 + 31 * m + (18 + j)) = ((tor t).getD j 0 : Nat)) : wws f2 (ts ++ [t]) := by
  intro u hu
  rw [List.length_append, List.length_singleton] at hu
  rw [sw_snoc]
  by_cases c : u = ts.length
  · rw [if_pos c, c, ← hm]
    exact ⟨⟨h0, h1, hb.2.1.1, hb.2.1.2.1, hb.2.1.2.2⟩, hb.2.2⟩
  · rw [if_neg c]
    have x := w u (by omega)
    have l13 := hl u (by omega)
    have e : ∀ i, i < 31 → f2 (727 + 31 * u + i) = f (727 + 31 * u + i) := fun i hi => hb.1 _ (by omega)
    refine ⟨⟨(e 0 (by omega)).trans x.1.1, (e 1 (by omega)).trans x.1.2.1, (e 2 (by omega)).trans x.1.2.2.1, (e 3 (by omega)).trans x.1.2.2.2.1, (e 4 (by omega)).trans x.1.2.2.2.2⟩, fun j hj => ⟨(e (5 + j) (by omega)).trans (x.2 j hj).1, (e (18 + j) (by omega)).trans (x.2 j hj).2⟩⟩
set_option maxRecDepth 100000 in
theorem m_sends_88 (ok : yok bk ms D) (hmm : yokF ms) (l12 : ms.length ≤ 12) (hbk : bk.length ≤ 16 ∧ ∀ e, e < bk.length → bcd bk e < 1296) (hco : 2 ≤ wi ∧ wi ≤ 15) : ∀ (n i : Nat) (ts : List yT) (h : zH) (F : Nat → Nat → Int), ms.length ≤ i + n → i ≤ ms.length → ts.length ≤ i → zKH h F J V P → rX F V ms → (F 35 0 = co ∧ F 35 1 = wi) → (∀ e, e < bk.length → F 35 (87 + 40 * e + 0) = bcd bk e) → wws (F 35) ts → (∀ u, u < ts.length → (tor (sw ts u)).length ≤ 13) → (∀ j, j < ms.length → F 45 j = ((D.getD j yq0).2.2.1 : Int) ∧ F 46 j = (D.getD j yq0).2.2.2) → ∀ Q : zQ, (∀ f2, (∀ u, u < 727 → f2 u = F 35 u) → wws f2 (ts ++ yns co wi bk ms D n i) → Go 132 161 [vR 34, vI ((ts ++ yns co wi bk ms D n i).length : Nat), vI ms.length] [] (h.set 35 (aI 1099 f2)) Q) → Go 132 88 [vR 34, vI ts.length, vI i] [] h Q := by
  intro n
  induction n with
  | zero =>
    intro i ts h F hf hi ht k xX hs hc hw hlen hD Q hQ
    obtain rfl : i = ms.length := by omega
    have v14 := xX.2.2.1.1
    have c3 := hQ (F 35) (fun _ _ => rfl) (by unfold yns; rw [List.append_nil]; exact hw)
    unfold yns at c3
    rw [List.append_nil, zsg_i (kh_35 k)] at c3
    refine Go_on (fun p => p == 161) 400 ?_; simp only [Ge_s, eM_s, zct_0, zct_I, zct_P, zct_J, eX_iconst, eX_ldc2w, eX_iload, eX_lload, eX_aload, eX_istore, eX_lstore, eX_astore, eX_iinc, eX_iadd, eX_isub, eX_imul, eX_idiv, eX_irem, eX_iand, eX_land, eX_lor, eX_lshl, eX_lushr, eX_lcmp, eX_i2l, eX_l2i, eX_dup, eX_dup2, eX_ifCond, eX_ificmp, eX_goto, eX_ifnonnull, eX_tableswitch, eX_invokeinterface, eX_multianewarray, eX_getstatic, eX_iaload, eX_laload, eX_baload, eX_aaload, eX_iastore, eX_bastore, eX_lastore, eX_aastore, eX_arraylength, eX_new, eX_newarray, eX_anewarray, eX_invokevirtual, eX_invokestatic, eX_invokespecial, eX_pop, eX_invokedynamic, eX_ireturn, eX_freturn, eX_lreturn, eX_return, eI_s, eJ_s, eP_s, eSI_s, eSJ_s, eSP_s, eInc_s, eAdd_s, eSub_s, eMul_s, eDiv_s, eRem_s, eAnd_s, eLand_s, eLor_s, eLshl_s, eLushr_s, eLcmp_s, eI2l_s, eL2i_s, eDup_s, eDup2_s, eIf_s, eIc_s, eBr_eq, eBr_ne, eBr_lt, eBr_ge, eBr_gt, eBr_le, eNn_s, eNn_n, eG3_s, eG2_s, eGf_s, eP2_s, ePf_s, eAI2_s, eAZ2_s, eAJ2_s, eAQ2_s, eAI_s, eAZ_s, eAJ_s, eAQ_s, eXI2_s, eXZ2_s, eXJ2_s, eXQ2_s, eXI_s, eXZ_s, eXJ_s, eXQ_s, eL2_s, eLn_s, eNa_i, eNa_z, eNa_j, eNq_s, eK_s, eK_n, eR2_s, eRv_s, eRi_s, eCv_s, eCs_s, eCi_s, ePop_s, eMx_s, eMn_s, eCp_s, eCp2_i, eCp2_j, eJd_1, eJd_2, eJd_3, eRI_s, eRZ_s, eRJ_s, eRV_s, zsg_s, zsg_n, zsg_c, List.set_set, Option.map_some, ne_eq, not_false_eq_true, zfit_0, zfit_1, zfit_12, zkd, ↓reduceIte, zc1_I, zc1_P, zset1, zset2, zclr, List.getElem?_cons_zero, List.getElem?_cons_succ, List.set_cons_zero, List.set_cons_succ, List.length_cons, List.length_nil, List.take_succ_cons, List.take_zero, List.drop_succ_cons, List.drop_zero, List.reverse_cons, List.reverse_nil, List.nil_append, List.cons_append, Option.toList_some, Option.toList_none, Nat.reduceAdd, Nat.reduceSub, Nat.reduceLeDiff, Nat.reduceBEq, Nat.reduceEqDiff, Int.reduceToNat, Bool.or_false, Bool.false_or, Bool.or_true, Bool.true_or, Bool.false_eq_true, if_true, if_false, ite_true, ite_false, and_true, true_and, and_self, reduceCtorEq, Int.reduceLT, Int.reduceLE, Int.reduceNeg, Int.reduceAdd, Int.reduceSub, Int.reduceMul, Nat.le_refl, or_true, true_or, or_self, Int.reduceEq, za_132, kh_34 k, v14, Int.lt_irrefl]
    ((try unfold zr); (try unfold zix); (repeat' first | exact trivial | assumption | (with_reducible rfl) | omega | (refine And.intro ?_ ?_)))
  | succ n ih =>
    intro i ts h F hf hi ht k xX hs hc hw hlen hD Q hQ
    have v14 := xX.2.2.1.1
    by_cases c : i < ms.length
    · have e1 : (i : Int) < ms.length := by omega
      have e2 : ((i : Int)).toNat = i := by omega
      have hDi := hD i c
      have oki := ok i c
      have hns : yns co wi bk ms D (n + 1) i = ynt co wi bk ms i (D.getD i yq0).2.2.1 (D.getD i yq0).2.2.2 :: yns co wi bk ms D n (i + (D.getD i yq0).2.2.1) := by
        show (if i < ms.length then _ else _) = _
        rw [if_pos c]
      rw [hns] at hQ
      generalize (D.getD i yq0).2.2.1 = sp at *
      generalize (D.getD i yq0).2.2.2 = en at *
      have b0 := m_setWord k ts.length 0 (i : Int) (by omega)
      have b1 := m_setWord2 k (va_up (F 35) (727 + 31 * ts.length + 0) i) ts.length 1 (sp : Int) (by omega)
      have t0 : ((0 : Nat) : Int) = 0 := rfl
      have t1 : ((1 : Nat) : Int) = 1 := rfl
      rw [t0] at b0
      rw [t1] at b1
      have k2 := ks_35 k (va_up (va_up (F 35) (727 + 31 * ts.length + 0) i) (727 + 31 * ts.length + 1) sp)
      have nl := ynt_len (bk := bk) hmm co wi i sp en
      have hlo : ∀ u, u < 727 + 31 * ts.length → va_up (va_up (F 35) (727 + 31 * ts.length + 0) i) (727 + 31 * ts.length + 1) sp u = F 35 u := fun u hu => by rw [y_up, y_up, if_neg (by omega), if_neg (by omega)]
      -- behind the word
      have step : ∀ f2, wrt (va_up (va_up (F 35) (727 + 31 * ts.length + 0) i) (727 + 31 * ts.length + 1) sp) f2 ts.length (tco (ynt co wi bk ms i sp en)) (tpa (ynt co wi bk ms i sp en)) (tor (ynt co wi bk ms i sp en)) → Go 132 146 [vR 34, vI ts.length, vI i] [] (h.set 35 (aI 1099 f2)) Q := by
        intro f2 hw2
        have k3 := ks_35 k f2
        have el : (ts ++ [ynt co wi bk ms i sp en]).length = ts.length + 1 := by simp
        have f2lo : ∀ u, u < 727 + 31 * ts.length → f2 u = F 35 u := fun u hu => by rw [hw2.1 u (by omega)]; exact hlo u hu
        have c3 := ih (i + sp) (ts ++ [ynt co wi bk ms i sp en]) _ _ (by omega) (by omega) (by omega) k3 xX ⟨by show f2 0 = co; rw [f2lo 0 (by omega)]; exact hs.1, by show f2 1 = wi; rw [f2lo 1 (by omega)]; exact hs.2⟩ (fun e he => by show f2 _ = _; rw [f2lo _ (by omega)]; exact hc e he) (wws_snoc hlen hw (ynt co wi bk ms i sp en) ts.length rfl (by
            show f2 _ = _
            rw [hw2.2.1.1, y_up, if_neg (by omega), y_up, if_pos rfl, nl.2.2.1]) (by
            show f2 _ = _
            rw [hw2.2.1.2, y_up, if_pos rfl, nl.2.2.2]) ⟨f2lo, hw2.2.2.1, hw2.2.2.2⟩) (fun u hu => by
            rw [el] at hu
            rw [sw_snoc]
            split
            · exact nl.1
            · exact hlen u (by omega)) hD Q (fun f3 h3 w3 => by
            rw [List.set_set]
            rw [List.append_assoc] at w3 ⊢
            exact hQ f3 (fun u hu => (h3 u hu).trans (f2lo u (by omega))) w3)
        rw [el] at c3
        have f45 : F 45 i = sp := hDi.1
        have e3 : ((i + sp : Nat) : Int) = (i : Int) + sp := by omega
        rw [e3] at c3
        refine Go_on (fun p => p == 88) 400 ?_; simp only [Ge_s, eM_s, zct_0, zct_I, zct_P, zct_J, eX_iconst, eX_ldc2w, eX_iload, eX_lload, eX_aload, eX_istore, eX_lstore, eX_astore, eX_iinc, eX_iadd, eX_isub, eX_imul, eX_idiv, eX_irem, eX_iand, eX_land, eX_lor, eX_lshl, eX_lushr, eX_lcmp, eX_i2l, eX_l2i, eX_dup, eX_dup2, eX_ifCond, eX_ificmp, eX_goto, eX_ifnonnull, eX_tableswitch, eX_invokeinterface, eX_multianewarray, eX_getstatic, eX_iaload, eX_laload, eX_baload, eX_aaload, eX_iastore, eX_bastore, eX_lastore, eX_aastore, eX_arraylength, eX_new, eX_newarray, eX_anewarray, eX_invokevirtual, eX_invokestatic, eX_invokespecial, eX_pop, eX_invokedynamic, eX_ireturn, eX_freturn, eX_lreturn, eX_return, eI_s, eJ_s, eP_s, eSI_s, eSJ_s, eSP_s, eInc_s, eAdd_s, eSub_s, eMul_s, eDiv_s, eRem_s, eAnd_s, eLand_s, eLor_s, eLshl_s, eLushr_s, eLcmp_s, eI2l_s, eL2i_s, eDup_s, eDup2_s, eIf_s, eIc_s, eBr_eq, eBr_ne, eBr_lt, eBr_ge, eBr_gt, eBr_le, eNn_s, eNn_n, eG3_s, eG2_s, eGf_s, eP2_s, ePf_s, eAI2_s, eAZ2_s, eAJ2_s, eAQ2_s, eAI_s, eAZ_s, eAJ_s, eAQ_s, eXI2_s, eXZ2_s, eXJ2_s, eXQ2_s, eXI_s, eXZ_s, eXJ_s, eXQ_s, eL2_s, eLn_s, eNa_i, eNa_z, eNa_j, eNq_s, eK_s, eK_n, eR2_s, eRv_s, eRi_s, eCv_s, eCs_s, eCi_s, ePop_s, eMx_s, eMn_s, eCp_s, eCp2_i, eCp2_j, eJd_1, eJd_2, eJd_3, eRI_s, eRZ_s, eRJ_s, eRV_s, zsg_s, zsg_n, zsg_c, List.set_set, Option.map_some, ne_eq, not_false_eq_true, zfit_0, zfit_1, zfit_12, zkd, ↓reduceIte, zc1_I, zc1_P, zset1, zset2, zclr, List.getElem?_cons_zero, List.getElem?_cons_succ, List.set_cons_zero, List.set_cons_succ, List.length_cons, List.length_nil, List.take_succ_cons, List.take_zero, List.drop_succ_cons, List.drop_zero, List.reverse_cons, List.reverse_nil, List.nil_append, List.cons_append, Option.toList_some, Option.toList_none, Nat.reduceAdd, Nat.reduceSub, Nat.reduceLeDiff, Nat.reduceBEq, Nat.reduceEqDiff, Int.reduceToNat, Bool.or_false, Bool.false_or, Bool.or_true, Bool.true_or, Bool.false_eq_true, if_true, if_false, ite_true, ite_false, and_true, true_and, and_self, reduceCtorEq, Int.reduceLT, Int.reduceLE, Int.reduceNeg, Int.reduceAdd, Int.reduceSub, Int.reduceMul, Nat.le_refl, or_true, true_or, or_self, Int.reduceEq, za_132, kh_34 k, kh_45 k, e2, f45]
        ((try unfold zr); (try unfold zix); (repeat' first | exact trivial | assumption | (with_reducible rfl) | omega | (refine And.intro ?_ ?_)))
      have f45 : F 45 i = sp := hDi.1
      have f46 : F 46 i = en := hDi.2
      by_cases c6 : en = -6
      · subst c6
        have et : ynt co wi bk ms i sp (-6) = (i, sp, 0, ypc co wi (ms.getD i []).length, ypw (ms.getD i []), ypw (ms.getD i [])) := if_pos rfl
        rw [et] at step
        have c3 := m_sendPlain k2 xX ts.length i (by omega) c ⟨(hlo 0 (by omega)).trans hs.1, (hlo 1 (by omega)).trans hs.2⟩ hco (eK (fun pc ls st h => Go 132 pc ls st h Q) 132 [vR 34, vI ts.length, vI i] []) (fun f2 hw2 => by
          rw [eK_n, List.set_set]
          have c4 := step f2 hw2
          refine Go_on (fun p => p == 146) 400 ?_; simp only [Ge_s, eM_s, zct_0, zct_I, zct_P, zct_J, eX_iconst, eX_ldc2w, eX_iload, eX_lload, eX_aload, eX_istore, eX_lstore, eX_astore, eX_iinc, eX_iadd, eX_isub, eX_imul, eX_idiv, eX_irem, eX_iand, eX_land, eX_lor, eX_lshl, eX_lushr, eX_lcmp, eX_i2l, eX_l2i, eX_dup, eX_dup2, eX_ifCond, eX_ificmp, eX_goto, eX_ifnonnull, eX_tableswitch, eX_invokeinterface, eX_multianewarray, eX_getstatic, eX_iaload, eX_laload, eX_baload, eX_aaload, eX_iastore, eX_bastore, eX_lastore, eX_aastore, eX_arraylength, eX_new, eX_newarray, eX_anewarray, eX_invokevirtual, eX_invokestatic, eX_invokespecial, eX_pop, eX_invokedynamic, eX_ireturn, eX_freturn, eX_lreturn, eX_return, eI_s, eJ_s, eP_s, eSI_s, eSJ_s, eSP_s, eInc_s, eAdd_s, eSub_s, eMul_s, eDiv_s, eRem_s, eAnd_s, eLand_s, eLor_s, eLshl_s, eLushr_s, eLcmp_s, eI2l_s, eL2i_s, eDup_s, eDup2_s, eIf_s, eIc_s, eBr_eq, eBr_ne, eBr_lt, eBr_ge, eBr_gt, eBr_le, eNn_s, eNn_n, eG3_s, eG2_s, eGf_s, eP2_s, ePf_s, eAI2_s, eAZ2_s, eAJ2_s, eAQ2_s, eAI_s, eAZ_s, eAJ_s, eAQ_s, eXI2_s, eXZ2_s, eXJ2_s, eXQ2_s, eXI_s, eXZ_s, eXJ_s, eXQ_s, eL2_s, eLn_s, eNa_i, eNa_z, eNa_j, eNq_s, eK_s, eK_n, eR2_s, eRv_s, eRi_s, eCv_s, eCs_s, eCi_s, ePop_s, eMx_s, eMn_s, eCp_s, eCp2_i, eCp2_j, eJd_1, eJd_2, eJd_3, eRI_s, eRZ_s, eRJ_s, eRV_s, zsg_s, zsg_n, zsg_c, List.set_set, Option.map_some, ne_eq, not_false_eq_true, zfit_0, zfit_1, zfit_12, zkd, ↓reduceIte, zc1_I, zc1_P, zset1, zset2, zclr, List.getElem?_cons_zero, List.getElem?_cons_succ, List.set_cons_zero, List.set_cons_succ, List.length_cons, List.length_nil, List.take_succ_cons, List.take_zero, List.drop_succ_cons, List.drop_zero, List.reverse_cons, List.reverse_nil, List.nil_append, List.cons_append, Option.toList_some, Option.toList_none, Nat.reduceAdd, Nat.reduceSub, Nat.reduceLeDiff, Nat.reduceBEq, Nat.reduceEqDiff, Int.reduceToNat, Bool.or_false, Bool.false_or, Bool.or_true, Bool.true_or, Bool.false_eq_true, if_true, if_false, ite_true, ite_false, and_true, true_and, and_self, reduceCtorEq, Int.reduceLT, Int.reduceLE, Int.reduceNeg, Int.reduceAdd, Int.reduceSub, Int.reduceMul, Nat.le_refl, or_true, true_or, or_self, Int.reduceEq, za_132]
          ((try unfold zr); (try unfold zix); (repeat' first | exact trivial | assumption | (with_reducible rfl) | omega | (refine And.intro ?_ ?_))))
        refine Go_on (fun p => p == 146 || p == 132) 400 ?_; simp only [Ge_s, eM_s, zct_0, zct_I, zct_P, zct_J, eX_iconst, eX_ldc2w, eX_iload, eX_lload, eX_aload, eX_istore, eX_lstore, eX_astore, eX_iinc, eX_iadd, eX_isub, eX_imul, eX_idiv, eX_irem, eX_iand, eX_land, eX_lor, eX_lshl, eX_lushr, eX_lcmp, eX_i2l, eX_l2i, eX_dup, eX_dup2, eX_ifCond, eX_ificmp, eX_goto, eX_ifnonnull, eX_tableswitch, eX_invokeinterface, eX_multianewarray, eX_getstatic, eX_iaload, eX_laload, eX_baload, eX_aaload, eX_iastore, eX_bastore, eX_lastore, eX_aastore, eX_arraylength, eX_new, eX_newarray, eX_anewarray, eX_invokevirtual, eX_invokestatic, eX_invokespecial, eX_pop, eX_invokedynamic, eX_ireturn, eX_freturn, eX_lreturn, eX_return, eI_s, eJ_s, eP_s, eSI_s, eSJ_s, eSP_s, eInc_s, eAdd_s, eSub_s, eMul_s, eDiv_s, eRem_s, eAnd_s, eLand_s, eLor_s, eLshl_s, eLushr_s, eLcmp_s, eI2l_s, eL2i_s, eDup_s, eDup2_s, eIf_s, eIc_s, eBr_eq, eBr_ne, eBr_lt, eBr_ge, eBr_gt, eBr_le, eNn_s, eNn_n, eG3_s, eG2_s, eGf_s, eP2_s, ePf_s, eAI2_s, eAZ2_s, eAJ2_s, eAQ2_s, eAI_s, eAZ_s, eAJ_s, eAQ_s, eXI2_s, eXZ2_s, eXJ2_s, eXQ2_s, eXI_s, eXZ_s, eXJ_s, eXQ_s, eL2_s, eLn_s, eNa_i, eNa_z, eNa_j, eNq_s, eK_s, eK_n, eR2_s, eRv_s, eRi_s, eCv_s, eCs_s, eCi_s, ePop_s, eMx_s, eMn_s, eCp_s, eCp2_i, eCp2_j, eJd_1, eJd_2, eJd_3, eRI_s, eRZ_s, eRJ_s, eRV_s, zsg_s, zsg_n, zsg_c, List.set_set, Option.map_some, ne_eq, not_false_eq_true, zfit_0, zfit_1, zfit_12, zkd, ↓reduceIte, zc1_I, zc1_P, zset1, zset2, zclr, List.getElem?_cons_zero, List.getElem?_cons_succ, List.set_cons_zero, List.set_cons_succ, List.length_cons, List.length_nil, List.take_succ_cons, List.take_zero, List.drop_succ_cons, List.drop_zero, List.reverse_cons, List.reverse_nil, List.nil_append, List.cons_append, Option.toList_some, Option.toList_none, Nat.reduceAdd, Nat.reduceSub, Nat.reduceLeDiff, Nat.reduceBEq, Nat.reduceEqDiff, Int.reduceToNat, Bool.or_false, Bool.false_or, Bool.or_true, Bool.true_or, Bool.false_eq_true, if_true, if_false, ite_true, ite_false, and_true, true_and, and_self, reduceCtorEq, Int.reduceLT, Int.reduceLE, Int.reduceNeg, Int.reduceAdd, Int.reduceSub, Int.reduceMul, Nat.le_refl, or_true, true_or, or_self, Int.reduceEq, za_132, zf_128, zf_130, kh_34 k, kh_45 k, kh_46 k, v14, e1, e2, f45, f46, b0, b1, eq_true (show (-6 : Int) = -6 from rfl)]
        ((try unfold zr); (try unfold zix); (repeat' first | exact trivial | assumption | (with_reducible rfl) | omega | (refine And.intro ?_ ?_)))
      · obtain ⟨e, rfl⟩ : ∃ e : Nat, en = e := ⟨en.toNat, by omega⟩
        have he : e < bk.length := by omega
        have et : ynt co wi bk ms i sp (e : Int) = (i, sp, 1, co, ycw (bcd bk e), ycw (bcd bk e)) := if_neg c6
        rw [et] at step
        have c3 := m_sendCode (co := co) k2 ts.length e (bcd bk e) (by omega) (by omega) ⟨(hlo _ (by omega)).trans (hc e he), hbk.2 e he⟩ ((hlo 0 (by omega)).trans hs.1) (eK (fun pc ls st h => Go 132 pc ls st h Q) 146 [vR 34, vI ts.length, vI i] []) (fun f2 hw2 => by
          rw [eK_n, List.set_set]
          exact step f2 hw2)
        refine Go_on (fun p => p == 146) 400 ?_; simp only [Ge_s, eM_s, zct_0, zct_I, zct_P, zct_J, eX_iconst, eX_ldc2w, eX_iload, eX_lload, eX_aload, eX_istore, eX_lstore, eX_astore, eX_iinc, eX_iadd, eX_isub, eX_imul, eX_idiv, eX_irem, eX_iand, eX_land, eX_lor, eX_lshl, eX_lushr, eX_lcmp, eX_i2l, eX_l2i, eX_dup, eX_dup2, eX_ifCond, eX_ificmp, eX_goto, eX_ifnonnull, eX_tableswitch, eX_invokeinterface, eX_multianewarray, eX_getstatic, eX_iaload, eX_laload, eX_baload, eX_aaload, eX_iastore, eX_bastore, eX_lastore, eX_aastore, eX_arraylength, eX_new, eX_newarray, eX_anewarray, eX_invokevirtual, eX_invokestatic, eX_invokespecial, eX_pop, eX_invokedynamic, eX_ireturn, eX_freturn, eX_lreturn, eX_return, eI_s, eJ_s, eP_s, eSI_s, eSJ_s, eSP_s, eInc_s, eAdd_s, eSub_s, eMul_s, eDiv_s, eRem_s, eAnd_s, eLand_s, eLor_s, eLshl_s, eLushr_s, eLcmp_s, eI2l_s, eL2i_s, eDup_s, eDup2_s, eIf_s, eIc_s, eBr_eq, eBr_ne, eBr_lt, eBr_ge, eBr_gt, eBr_le, eNn_s, eNn_n, eG3_s, eG2_s, eGf_s, eP2_s, ePf_s, eAI2_s, eAZ2_s, eAJ2_s, eAQ2_s, eAI_s, eAZ_s, eAJ_s, eAQ_s, eXI2_s, eXZ2_s, eXJ2_s, eXQ2_s, eXI_s, eXZ_s, eXJ_s, eXQ_s, eL2_s, eLn_s, eNa_i, eNa_z, eNa_j, eNq_s, eK_s, eK_n, eR2_s, eRv_s, eRi_s, eCv_s, eCs_s, eCi_s, ePop_s, eMx_s, eMn_s, eCp_s, eCp2_i, eCp2_j, eJd_1, eJd_2, eJd_3, eRI_s, eRZ_s, eRJ_s, eRV_s, zsg_s, zsg_n, zsg_c, List.set_set, Option.map_some, ne_eq, not_false_eq_true, zfit_0, zfit_1, zfit_12, zkd, ↓reduceIte, zc1_I, zc1_P, zset1, zset2, zclr, List.getElem?_cons_zero, List.getElem?_cons_succ, List.set_cons_zero, List.set_cons_succ, List.length_cons, List.length_nil, List.take_succ_cons, List.take_zero, List.drop_succ_cons, List.drop_zero, List.reverse_cons, List.reverse_nil, List.nil_append, List.cons_append, Option.toList_some, Option.toList_none, Nat.reduceAdd, Nat.reduceSub, Nat.reduceLeDiff, Nat.reduceBEq, Nat.reduceEqDiff, Int.reduceToNat, Bool.or_false, Bool.false_or, Bool.or_true, Bool.true_or, Bool.false_eq_true, if_true, if_false, ite_true, ite_false, and_true, true_and, and_self, reduceCtorEq, Int.reduceLT, Int.reduceLE, Int.reduceNeg, Int.reduceAdd, Int.reduceSub, Int.reduceMul, Nat.le_refl, or_true, true_or, or_self, Int.reduceEq, za_132, zf_128, zf_131, kh_34 k, kh_45 k, kh_46 k, v14, e1, e2, f45, f46, b0, b1, c6]
        ((try unfold zr); (try unfold zix); (repeat' first | exact trivial | assumption | (with_reducible rfl) | omega | (refine And.intro ?_ ?_)))
    · obtain rfl : i = ms.length := by omega
      have hns : yns co wi bk ms D (n + 1) ms.length = [] := by
        show (if ms.length < ms.length then _ else _) = _
        rw [if_neg c]
      rw [hns] at hQ
      have c3 := hQ (F 35) (fun _ _ => rfl) (by rw [List.append_nil]; exact hw)
      rw [List.append_nil, zsg_i (kh_35 k)] at c3
      refine Go_on (fun p => p == 161) 400 ?_; simp only [Ge_s, eM_s, zct_0, zct_I, zct_P, zct_J, eX_iconst, eX_ldc2w, eX_iload, eX_lload, eX_aload, eX_istore, eX_lstore, eX_astore, eX_iinc, eX_iadd, eX_isub, eX_imul, eX_idiv, eX_irem, eX_iand, eX_land, eX_lor, eX_lshl, eX_lushr, eX_lcmp, eX_i2l, eX_l2i, eX_dup, eX_dup2, eX_ifCond, eX_ificmp, eX_goto, eX_ifnonnull, eX_tableswitch, eX_invokeinterface, eX_multianewarray, eX_getstatic, eX_iaload, eX_laload, eX_baload, eX_aaload, eX_iastore, eX_bastore, eX_lastore, eX_aastore, eX_arraylength, eX_new, eX_newarray, eX_anewarray, eX_invokevirtual, eX_invokestatic, eX_invokespecial, eX_pop, eX_invokedynamic, eX_ireturn, eX_freturn, eX_lreturn, eX_return, eI_s, eJ_s, eP_s, eSI_s, eSJ_s, eSP_s, eInc_s, eAdd_s, eSub_s, eMul_s, eDiv_s, eRem_s, eAnd_s, eLand_s, eLor_s, eLshl_s, eLushr_s, eLcmp_s, eI2l_s, eL2i_s, eDup_s, eDup2_s, eIf_s, eIc_s, eBr_eq, eBr_ne, eBr_lt, eBr_ge, eBr_gt, eBr_le, eNn_s, eNn_n, eG3_s, eG2_s, eGf_s, eP2_s, ePf_s, eAI2_s, eAZ2_s, eAJ2_s, eAQ2_s, eAI_s, eAZ_s, eAJ_s, eAQ_s, eXI2_s, eXZ2_s, eXJ2_s, eXQ2_s, eXI_s, eXZ_s, eXJ_s, eXQ_s, eL2_s, eLn_s, eNa_i, eNa_z, eNa_j, eNq_s, eK_s, eK_n, eR2_s, eRv_s, eRi_s, eCv_s, eCs_s, eCi_s, ePop_s, eMx_s, eMn_s, eCp_s, eCp2_i, eCp2_j, eJd_1, eJd_2, eJd_3, eRI_s, eRZ_s, eRJ_s, eRV_s, zsg_s, zsg_n, zsg_c, List.set_set, Option.map_some, ne_eq, not_false_eq_true, zfit_0, zfit_1, zfit_12, zkd, ↓reduceIte, zc1_I, zc1_P, zset1, zset2, zclr, List.getElem?_cons_zero, List.getElem?_cons_succ, List.set_cons_zero, List.set_cons_succ, List.length_cons, List.length_nil, List.take_succ_cons, List.take_zero, List.drop_succ_cons, List.drop_zero, List.reverse_cons, List.reverse_nil, List.nil_append, List.cons_append, Option.toList_some, Option.toList_none, Nat.reduceAdd, Nat.reduceSub, Nat.reduceLeDiff, Nat.reduceBEq, Nat.reduceEqDiff, Int.reduceToNat, Bool.or_false, Bool.false_or, Bool.or_true, Bool.true_or, Bool.false_eq_true, if_true, if_false, ite_true, ite_false, and_true, true_and, and_self, reduceCtorEq, Int.reduceLT, Int.reduceLE, Int.reduceNeg, Int.reduceAdd, Int.reduceSub, Int.reduceMul, Nat.le_refl, or_true, true_or, or_self, Int.reduceEq, za_132, kh_34 k, v14, Int.lt_irrefl]
      ((try unfold zr); (try unfold zix); (repeat' first | exact trivial | assumption | (with_reducible rfl) | omega | (refine And.intro ?_ ?_)))
end
