/-! The class: loops over the book -/
def yal (p : Nat → Bool) (i : Nat) : Nat → Bool
  | 0 => true
  | d + 1 => if p i = true then yal p (i + 1) d else false
set_option maxRecDepth 100000 in
theorem yal_iff (p : Nat → Bool) : ∀ (d i : Nat), yal p i d = true ↔ ∀ j, i ≤ j → j < i + d → p j = true := by
  intro d
  induction d with
  | zero => intro i; exact ⟨fun _ j h1 h2 => absurd h2 (by omega), fun _ => rfl⟩
  | succ d ih =>
    intro i
    unfold yal
    by_cases hp : p i = true
    · rw [if_pos hp, ih]
      constructor
      · intro h j h1 h2
        by_cases e : i = j
        · exact e ▸ hp
        · exact h j (by omega) (by omega)
      · intro h j h1 h2
        exact h j (by omega) (by omega)
    · rw [if_neg hp]
      exact ⟨fun x => absurd x (by simp), fun h => absurd (h i (by omega) (by omega)) hp⟩
def yfd (p : Nat → Bool) (i : Nat) : Nat → Int
  | 0 => -6
  | d + 1 => if p i = true then i else yfd p (i + 1) d
def ysub (ms : yF) (i s : Nat) : yF := (ms.drop i).take s
set_option maxRecDepth 100000 in
theorem ysub_get (ms : yF) (i s j : Nat) : (ysub ms i s).getD j [] = if j < s then ms.getD (i + j) [] else [] := by
  unfold ysub
  rw [List.getD_eq_getElem?_getD, List.getElem?_take, List.getD_eq_getElem?_getD]
  by_cases hj : j < s
  · rw [if_pos hj, if_pos hj, List.getElem?_drop]
  · rw [if_neg hj, if_neg hj]; rfl
set_option maxRecDepth 100000 in
theorem yF_ext {p q : yF} (hp : yokF p) (hq : yokF q) (h1 : p.length ≤ 3) (h2 : q.length ≤ 3) (h : ∀ j, j < 3 → p.getD j [] = q.getD j []) : p = q := by
  have key : ∀ (p q : yF), yokF p → q.length ≤ 3 → (∀ j, j < 3 → p.getD j [] = q.getD j []) → p.length ≤ 3 → p.length ≤ q.length := by
    intro p q hp h2 h h1
    rcases Nat.lt_or_ge q.length p.length with x | x
    · have e := h q.length (by omega)
      rw [ygetD_out (l := q) (Nat.le_refl _)] at e
      have := hp _ (ygetD_mem (d := []) x)
      rw [e] at this
      exact absurd this.1.1 (by simp)
    · exact x
  have l1 := key p q hp h2 h h1
  have l2 := key q p hq h1 (fun j hj => (h j hj).symm) h2
  refine List.ext_getElem (by omega) fun j hj1 hj2 => ?_
  have := h j (by omega)
  rw [List.getD_eq_getElem?_getD, List.getD_eq_getElem?_getD, List.getElem?_eq_getElem hj1, List.getElem?_eq_getElem hj2] at this
  exact this
set_option maxRecDepth 100000 in
theorem yokF_sub {ms : yF} (hm : yokF ms) (i s : Nat) : yokF (ysub ms i s) := fun u hu => hm u (List.mem_of_mem_drop (List.mem_of_mem_take hu))
set_option maxRecDepth 100000 in
theorem ysub_len (ms : yF) (i s : Nat) : (ysub ms i s).length ≤ s := by
  unfold ysub
  rw [List.length_take]
  omega
def ymp (ph ms : yF) (i s j : Nat) : Bool := decide (ypk (ph.getD j []) = if j < s then ypk (ms.getD (i + j) []) else 0)
set_option maxRecDepth 100000 in
theorem ymp_all {ph ms : yF} (hp : yokF ph) (hl : ph.length ≤ 3) (hm : yokF ms) (i s : Nat) (hs : s ≤ 3) : yal (ymp ph ms i s) 0 3 = decide (ph = ysub ms i s) := by
  have ho : ∀ (q : yF), yokF q → ∀ j, yltW (q.getD j []) := by
    intro q hq j
    rcases Nat.lt_or_ge j q.length with x | x
    · exact (hq _ (ygetD_mem (d := []) x)).2
    · rw [ygetD_out x]; exact fun _ y => absurd y (by simp)
  have hmp : ∀ j, ymp ph ms i s j = true ↔ ph.getD j [] = (ysub ms i s).getD j [] := by
    intro j
    rw [ysub_get]
    unfold ymp
    rw [decide_eq_true_iff]
    by_cases hj : j < s
    · rw [if_pos hj, if_pos hj]
      exact ⟨fun x => ypk_inj _ _ (ho _ hp _) (ho _ hm _) x, fun x => congrArg ypk x⟩
    · rw [if_neg hj, if_neg hj]
      exact ypk_zero _
  rw [Bool.eq_iff_iff, yal_iff, decide_eq_true_iff]
  constructor
  · intro h
    exact yF_ext hp (yokF_sub hm _ _) hl (Nat.le_trans (ysub_len _ _ _) hs) fun j hj => (hmp j).1 (h j (by omega) (by omega))
  · intro h j _ _
    exact (hmp j).2 (by rw [← h])
set_option maxRecDepth 100000 in
theorem y_lc (x y : Nat) : zlc x y = 0 ↔ x = y := by
  unfold zlc
  repeat' split
  all_goals omega
set_option maxRecDepth 100000 in
theorem y_lcr (x y : Nat) : zr (zlc x y) = True := by
  refine eq_true ?_
  unfold zlc zr
  repeat' split
  all_goals omega
section
variable {h : zH} {F : Nat → Nat → Int} {J : Nat → Nat → Nat} {V : Nat → Int} {P : Nat → Nat → Option Nat} {bk : yB}
set_option maxRecDepth 100000 in
theorem c_means_l (k : zKH h F J V P) (hb : rb (V 0) (F 7) (J 8) bk) {a b : Nat} {l : Int} {g : Nat → Nat} {ms : yF} (ha : h[a]? = some (oO 8 [vR b, vI l])) (hg : h[b]? = some (aJ 12 g)) (hm : rm l g ms) (e i s : Nat) (he : e < bk.length) (hi : i + s ≤ ms.length) : ∀ (d j : Nat) (x y : zV), j + d = 3 → Go 7 3 [vR 6, vI e, vR a, vI i, vI s, vI j, x, y] [] h (fun r h' => r = some (vI (if yal (ymp (bph bk e) ms i s) j d = true then 1 else 0)) ∧ h' = h) := by
  intro d
  induction d with
  | zero =>
    intro j x y hj
    obtain rfl : j = 3 := by omega
    refine Go_on (fun _ => false) 400 ?_; simp only [Ge_s, eM_s, zct_0, zct_I, zct_P, zct_J, eX_iconst, eX_ldc2w, eX_iload, eX_lload, eX_aload, eX_istore, eX_lstore, eX_astore, eX_iinc, eX_iadd, eX_isub, eX_imul, eX_idiv, eX_irem, eX_iand, eX_ishl, eX_ishr, eX_ixor, eX_ineg, eX_dupx2, eX_pop2, eX_land, eX_lor, eX_lshl, eX_lushr, eX_lcmp, eX_i2l, eX_l2i, eX_dup, eX_dup2, eX_ifCond, eX_ificmp, eX_goto, eX_ifnonnull, eX_tableswitch, eX_invokeinterface, eX_multianewarray, eX_getstatic, eX_iaload, eX_laload, eX_baload, eX_aaload, eX_iastore, eX_bastore, eX_lastore, eX_aastore, eX_arraylength, eX_new, eX_newarray, eX_anewarray, eX_invokevirtual, eX_invokestatic, eX_invokespecial, eX_pop, eX_invokedynamic, eX_ireturn, eX_freturn, eX_lreturn, eX_return, eI_s, eJ_s, eP_s, eSI_s, eSJ_s, eSP_s, eInc_s, eAdd_s, eSub_s, eMul_s, eDiv_s, eRem_s, eAnd_s, eXor_s, eNeg_s, eIshl_s, eIshr_s, eDx2_s, ePo2_s, zan_31, zan_255, zan_1, zan_15, zan_m, eLand_s, eLor_s, eLshl_s, eLushr_s, eLcmp_s, eI2l_s, eL2i_s, eDup_s, eDup2_s, eIf_s, eIc_s, eBr_eq, eBr_ne, eBr_lt, eBr_ge, eBr_gt, eBr_le, eNn_s, eNn_n, eG3_s, eG2_s, eGf_s, eP2_s, ePf_s, eAI2_s, eAZ2_s, eAJ2_s, eAQ2_s, eAI_s, eAZ_s, eAJ_s, eAQ_s, eXI2_s, eXZ2_s, eXJ2_s, eXQ2_s, eXI_s, eXZ_s, eXJ_s, eXQ_s, eL2_s, eLn_s, eNa_i, eNa_z, eNa_j, eNq_s, eK_s, eK_n, eR2_s, eRv_s, eRi_s, eCv_s, eCs_s, eCi_s, ePop_s, eMx_s, eMn_s, eCp_s, eCp2_i, eCp2_j, eJd_1, eJd_2, eJd_3, eRI_s, eRZ_s, eRJ_s, eRV_s, zsg_s, zsg_n, zsg_c, List.set_set, Option.map_some, ne_eq, not_false_eq_true, zfit_0, zfit_1, zfit_12, zkd, ↓reduceIte, zc1_I, zc1_P, zset1, zset2, zclr, List.getElem?_cons_zero, List.getElem?_cons_succ, List.set_cons_zero, List.set_cons_succ, List.length_cons, List.length_nil, List.take_succ_cons, List.take_zero, List.drop_succ_cons, List.drop_zero, List.reverse_cons, List.reverse_nil, List.nil_append, List.cons_append, Option.toList_some, Option.toList_none, Nat.reduceAdd, Nat.reduceSub, Nat.reduceLeDiff, Nat.reduceBEq, Nat.reduceEqDiff, Int.reduceToNat, Bool.or_false, Bool.false_or, Bool.or_true, Bool.true_or, Bool.false_eq_true, if_true, if_false, ite_true, ite_false, and_true, true_and, and_self, reduceCtorEq, Int.reduceLT, Int.reduceLE, Int.reduceNeg, Int.reduceAdd, Int.reduceSub, Int.reduceMul, Nat.le_refl, or_true, true_or, or_self, Int.reduceEq, za_7, yal]
    ((try unfold zr); (try unfold zix); (repeat' first | exact trivial | assumption | (with_reducible rfl) | omega | (refine And.intro ?_ ?_)))
  | succ d ih =>
    intro j x y hj
    have m12 := hm.1.2
    have e1 : (j : Int) < 3 := by omega
    have e0 : zr (j : Int) := by unfold zr; omega
    have e00 : zr (s : Int) := by unfold zr; omega
    have b1 := c_bWordAt (h := h) k hb e he j (by omega)
    have e5 : ∀ t : Nat, ypk ((bph bk e).getD j []) < 18446744073709551616 := by
      intro _
      have h3 := (hb.2 e he).2.1
      rcases Nat.lt_or_ge j (bph bk e).length with x | x
      · have := h3.1 _ (ygetD_mem (d := []) x)
        exact y_w64 this.2 this.1.2
      · rw [ygetD_out x]; decide
    have e6 : ypk (ywd ms ((i : Int) + j)) < 18446744073709551616 := y_w64 (ywd_ok hm.2.1 _).1 (ywd_ok hm.2.1 _).2
    have e7 : ywd ms ((i : Int) + j) = ms.getD (i + j) [] := by
      unfold ywd
      rw [if_pos (by omega)]
      exact congrArg (fun t => ms.getD t []) (by omega)
    by_cases c1 : (j : Int) < s
    · have c2 := c_wordAt ha hg hm ((i : Int) + j) (by unfold zr; omega)
      by_cases c3 : ypk ((bph bk e).getD j []) = ypk (ywd ms ((i : Int) + j))
      · have c4 : ymp (bph bk e) ms i s j = true := by
          unfold ymp
          rw [decide_eq_true_iff, if_pos (by omega), c3, e7]
        have c5 : yal (ymp (bph bk e) ms i s) j (d + 1) = yal (ymp (bph bk e) ms i s) (j + 1) d := by
          show (if ymp (bph bk e) ms i s j = true then _ else _) = _
          rw [if_pos c4]
        rw [c5]
        have c6 := ih (j + 1) (vJ (ypk (ywd ms ((i : Int) + j)))) vU (by omega)
        refine Go_on (fun p => p == 3) 400 ?_; simp only [Ge_s, eM_s, zct_0, zct_I, zct_P, zct_J, eX_iconst, eX_ldc2w, eX_iload, eX_lload, eX_aload, eX_istore, eX_lstore, eX_astore, eX_iinc, eX_iadd, eX_isub, eX_imul, eX_idiv, eX_irem, eX_iand, eX_ishl, eX_ishr, eX_ixor, eX_ineg, eX_dupx2, eX_pop2, eX_land, eX_lor, eX_lshl, eX_lushr, eX_lcmp, eX_i2l, eX_l2i, eX_dup, eX_dup2, eX_ifCond, eX_ificmp, eX_goto, eX_ifnonnull, eX_tableswitch, eX_invokeinterface, eX_multianewarray, eX_getstatic, eX_iaload, eX_laload, eX_baload, eX_aaload, eX_iastore, eX_bastore, eX_lastore, eX_aastore, eX_arraylength, eX_new, eX_newarray, eX_anewarray, eX_invokevirtual, eX_invokestatic, eX_invokespecial, eX_pop, eX_invokedynamic, eX_ireturn, eX_freturn, eX_lreturn, eX_return, eI_s, eJ_s, eP_s, eSI_s, eSJ_s, eSP_s, eInc_s, eAdd_s, eSub_s, eMul_s, eDiv_s, eRem_s, eAnd_s, eXor_s, eNeg_s, eIshl_s, eIshr_s, eDx2_s, ePo2_s, zan_31, zan_255, zan_1, zan_15, zan_m, eLand_s, eLor_s, eLshl_s, eLushr_s, eLcmp_s, eI2l_s, eL2i_s, eDup_s, eDup2_s, eIf_s, eIc_s, eBr_eq, eBr_ne, eBr_lt, eBr_ge, eBr_gt, eBr_le, eNn_s, eNn_n, eG3_s, eG2_s, eGf_s, eP2_s, ePf_s, eAI2_s, eAZ2_s, eAJ2_s, eAQ2_s, eAI_s, eAZ_s, eAJ_s, eAQ_s, eXI2_s, eXZ2_s, eXJ2_s, eXQ2_s, eXI_s, eXZ_s, eXJ_s, eXQ_s, eL2_s, eLn_s, eNa_i, eNa_z, eNa_j, eNq_s, eK_s, eK_n, eR2_s, eRv_s, eRi_s, eCv_s, eCs_s, eCi_s, ePop_s, eMx_s, eMn_s, eCp_s, eCp2_i, eCp2_j, eJd_1, eJd_2, eJd_3, eRI_s, eRZ_s, eRJ_s, eRV_s, zsg_s, zsg_n, zsg_c, List.set_set, Option.map_some, ne_eq, not_false_eq_true, zfit_0, zfit_1, zfit_12, zkd, ↓reduceIte, zc1_I, zc1_P, zset1, zset2, zclr, List.getElem?_cons_zero, List.getElem?_cons_succ, List.set_cons_zero, List.set_cons_succ, List.length_cons, List.length_nil, List.take_succ_cons, List.take_zero, List.drop_succ_cons, List.drop_zero, List.reverse_cons, List.reverse_nil, List.nil_append, List.cons_append, Option.toList_some, Option.toList_none, Nat.reduceAdd, Nat.reduceSub, Nat.reduceLeDiff, Nat.reduceBEq, Nat.reduceEqDiff, Int.reduceToNat, Bool.or_false, Bool.false_or, Bool.or_true, Bool.true_or, Bool.false_eq_true, if_true, if_false, ite_true, ite_false, and_true, true_and, and_self, reduceCtorEq, Int.reduceLT, Int.reduceLE, Int.reduceNeg, Int.reduceAdd, Int.reduceSub, Int.reduceMul, Nat.le_refl, or_true, true_or, or_self, Int.reduceEq, za_7, zf_56, zf_3, e1, c1, ha, c2, kh_6 k, b1, y_lc, y_lcr, c3, e6]
        ((try unfold zr); (try unfold zix); (repeat' first | exact trivial | assumption | (with_reducible rfl) | omega | (refine And.intro ?_ ?_)))
      · have c4 : ¬ ymp (bph bk e) ms i s j = true := by
          unfold ymp
          rw [decide_eq_true_iff, if_pos (by omega), ← e7]
          exact c3
        have c5 : yal (ymp (bph bk e) ms i s) j (d + 1) = false := by
          show (if ymp (bph bk e) ms i s j = true then _ else _) = _
          rw [if_neg c4]
        rw [c5]
        have e5 := e5 0
        refine Go_on (fun _ => false) 400 ?_; simp only [Ge_s, eM_s, zct_0, zct_I, zct_P, zct_J, eX_iconst, eX_ldc2w, eX_iload, eX_lload, eX_aload, eX_istore, eX_lstore, eX_astore, eX_iinc, eX_iadd, eX_isub, eX_imul, eX_idiv, eX_irem, eX_iand, eX_ishl, eX_ishr, eX_ixor, eX_ineg, eX_dupx2, eX_pop2, eX_land, eX_lor, eX_lshl, eX_lushr, eX_lcmp, eX_i2l, eX_l2i, eX_dup, eX_dup2, eX_ifCond, eX_ificmp, eX_goto, eX_ifnonnull, eX_tableswitch, eX_invokeinterface, eX_multianewarray, eX_getstatic, eX_iaload, eX_laload, eX_baload, eX_aaload, eX_iastore, eX_bastore, eX_lastore, eX_aastore, eX_arraylength, eX_new, eX_newarray, eX_anewarray, eX_invokevirtual, eX_invokestatic, eX_invokespecial, eX_pop, eX_invokedynamic, eX_ireturn, eX_freturn, eX_lreturn, eX_return, eI_s, eJ_s, eP_s, eSI_s, eSJ_s, eSP_s, eInc_s, eAdd_s, eSub_s, eMul_s, eDiv_s, eRem_s, eAnd_s, eXor_s, eNeg_s, eIshl_s, eIshr_s, eDx2_s, ePo2_s, zan_31, zan_255, zan_1, zan_15, zan_m, eLand_s, eLor_s, eLshl_s, eLushr_s, eLcmp_s, eI2l_s, eL2i_s, eDup_s, eDup2_s, eIf_s, eIc_s, eBr_eq, eBr_ne, eBr_lt, eBr_ge, eBr_gt, eBr_le, eNn_s, eNn_n, eG3_s, eG2_s, eGf_s, eP2_s, ePf_s, eAI2_s, eAZ2_s, eAJ2_s, eAQ2_s, eAI_s, eAZ_s, eAJ_s, eAQ_s, eXI2_s, eXZ2_s, eXJ2_s, eXQ2_s, eXI_s, eXZ_s, eXJ_s, eXQ_s, eL2_s, eLn_s, eNa_i, eNa_z, eNa_j, eNq_s, eK_s, eK_n, eR2_s, eRv_s, eRi_s, eCv_s, eCs_s, eCi_s, ePop_s, eMx_s, eMn_s, eCp_s, eCp2_i, eCp2_j, eJd_1, eJd_2, eJd_3, eRI_s, eRZ_s, eRJ_s, eRV_s, zsg_s, zsg_n, zsg_c, List.set_set, Option.map_some, ne_eq, not_false_eq_true, zfit_0, zfit_1, zfit_12, zkd, ↓reduceIte, zc1_I, zc1_P, zset1, zset2, zclr, List.getElem?_cons_zero, List.getElem?_cons_succ, List.set_cons_zero, List.set_cons_succ, List.length_cons, List.length_nil, List.take_succ_cons, List.take_zero, List.drop_succ_cons, List.drop_zero, List.reverse_cons, List.reverse_nil, List.nil_append, List.cons_append, Option.toList_some, Option.toList_none, Nat.reduceAdd, Nat.reduceSub, Nat.reduceLeDiff, Nat.reduceBEq, Nat.reduceEqDiff, Int.reduceToNat, Bool.or_false, Bool.false_or, Bool.or_true, Bool.true_or, Bool.false_eq_true, if_true, if_false, ite_true, ite_false, and_true, true_and, and_self, reduceCtorEq, Int.reduceLT, Int.reduceLE, Int.reduceNeg, Int.reduceAdd, Int.reduceSub, Int.reduceMul, Nat.le_refl, or_true, true_or, or_self, Int.reduceEq, za_7, zf_56, zf_3, e1, c1, ha, c2, kh_6 k, b1, y_lc, y_lcr, c3, e6, e5]
        ((try unfold zr); (try unfold zix); (repeat' first | exact trivial | assumption | (with_reducible rfl) | omega | (refine And.intro ?_ ?_)))
    · by_cases c3 : ypk ((bph bk e).getD j []) = 0
      · have c4 : ymp (bph bk e) ms i s j = true := by
          unfold ymp
          rw [decide_eq_true_iff, if_neg (by omega), c3]
        have c5 : yal (ymp (bph bk e) ms i s) j (d + 1) = yal (ymp (bph bk e) ms i s) (j + 1) d := by
          show (if ymp (bph bk e) ms i s j = true then _ else _) = _
          rw [if_pos c4]
        rw [c5]
        have c6 := ih (j + 1) (vJ 0) vU (by omega)
        refine Go_on (fun p => p == 3) 400 ?_; simp only [Ge_s, eM_s, zct_0, zct_I, zct_P, zct_J, eX_iconst, eX_ldc2w, eX_iload, eX_lload, eX_aload, eX_istore, eX_lstore, eX_astore, eX_iinc, eX_iadd, eX_isub, eX_imul, eX_idiv, eX_irem, eX_iand, eX_ishl, eX_ishr, eX_ixor, eX_ineg, eX_dupx2, eX_pop2, eX_land, eX_lor, eX_lshl, eX_lushr, eX_lcmp, eX_i2l, eX_l2i, eX_dup, eX_dup2, eX_ifCond, eX_ificmp, eX_goto, eX_ifnonnull, eX_tableswitch, eX_invokeinterface, eX_multianewarray, eX_getstatic, eX_iaload, eX_laload, eX_baload, eX_aaload, eX_iastore, eX_bastore, eX_lastore, eX_aastore, eX_arraylength, eX_new, eX_newarray, eX_anewarray, eX_invokevirtual, eX_invokestatic, eX_invokespecial, eX_pop, eX_invokedynamic, eX_ireturn, eX_freturn, eX_lreturn, eX_return, eI_s, eJ_s, eP_s, eSI_s, eSJ_s, eSP_s, eInc_s, eAdd_s, eSub_s, eMul_s, eDiv_s, eRem_s, eAnd_s, eXor_s, eNeg_s, eIshl_s, eIshr_s, eDx2_s, ePo2_s, zan_31, zan_255, zan_1, zan_15, zan_m, eLand_s, eLor_s, eLshl_s, eLushr_s, eLcmp_s, eI2l_s, eL2i_s, eDup_s, eDup2_s, eIf_s, eIc_s, eBr_eq, eBr_ne, eBr_lt, eBr_ge, eBr_gt, eBr_le, eNn_s, eNn_n, eG3_s, eG2_s, eGf_s, eP2_s, ePf_s, eAI2_s, eAZ2_s, eAJ2_s, eAQ2_s, eAI_s, eAZ_s, eAJ_s, eAQ_s, eXI2_s, eXZ2_s, eXJ2_s, eXQ2_s, eXI_s, eXZ_s, eXJ_s, eXQ_s, eL2_s, eLn_s, eNa_i, eNa_z, eNa_j, eNq_s, eK_s, eK_n, eR2_s, eRv_s, eRi_s, eCv_s, eCs_s, eCi_s, ePop_s, eMx_s, eMn_s, eCp_s, eCp2_i, eCp2_j, eJd_1, eJd_2, eJd_3, eRI_s, eRZ_s, eRJ_s, eRV_s, zsg_s, zsg_n, zsg_c, List.set_set, Option.map_some, ne_eq, not_false_eq_true, zfit_0, zfit_1, zfit_12, zkd, ↓reduceIte, zc1_I, zc1_P, zset1, zset2, zclr, List.getElem?_cons_zero, List.getElem?_cons_succ, List.set_cons_zero, List.set_cons_succ, List.length_cons, List.length_nil, List.take_succ_cons, List.take_zero, List.drop_succ_cons, List.drop_zero, List.reverse_cons, List.reverse_nil, List.nil_append, List.cons_append, Option.toList_some, Option.toList_none, Nat.reduceAdd, Nat.reduceSub, Nat.reduceLeDiff, Nat.reduceBEq, Nat.reduceEqDiff, Int.reduceToNat, Bool.or_false, Bool.false_or, Bool.or_true, Bool.true_or, Bool.false_eq_true, if_true, if_false, ite_true, ite_false, and_true, true_and, and_self, reduceCtorEq, Int.reduceLT, Int.reduceLE, Int.reduceNeg, Int.reduceAdd, Int.reduceSub, Int.reduceMul, Nat.le_refl, or_true, true_or, or_self, Int.reduceEq, za_7, zf_56, zf_3, e1, c1, ha, kh_6 k, b1, y_lc, y_lcr, c3]
        ((try unfold zr); (try unfold zix); (repeat' first | exact trivial | assumption | (with_reducible rfl) | omega | (refine And.intro ?_ ?_)))
      · have c4 : ¬ ymp (bph bk e) ms i s j = true := by
          unfold ymp
          rw [decide_eq_true_iff, if_neg (by omega)]
          exact c3
        have c5 : yal (ymp (bph bk e) ms i s) j (d + 1) = false := by
          show (if ymp (bph bk e) ms i s j = true then _ else _) = _
          rw [if_neg c4]
        rw [c5]
        have e5 := e5 0
        refine Go_on (fun _ => false) 400 ?_; simp only [Ge_s, eM_s, zct_0, zct_I, zct_P, zct_J, eX_iconst, eX_ldc2w, eX_iload, eX_lload, eX_aload, eX_istore, eX_lstore, eX_astore, eX_iinc, eX_iadd, eX_isub, eX_imul, eX_idiv, eX_irem, eX_iand, eX_ishl, eX_ishr, eX_ixor, eX_ineg, eX_dupx2, eX_pop2, eX_land, eX_lor, eX_lshl, eX_lushr, eX_lcmp, eX_i2l, eX_l2i, eX_dup, eX_dup2, eX_ifCond, eX_ificmp, eX_goto, eX_ifnonnull, eX_tableswitch, eX_invokeinterface, eX_multianewarray, eX_getstatic, eX_iaload, eX_laload, eX_baload, eX_aaload, eX_iastore, eX_bastore, eX_lastore, eX_aastore, eX_arraylength, eX_new, eX_newarray, eX_anewarray, eX_invokevirtual, eX_invokestatic, eX_invokespecial, eX_pop, eX_invokedynamic, eX_ireturn, eX_freturn, eX_lreturn, eX_return, eI_s, eJ_s, eP_s, eSI_s, eSJ_s, eSP_s, eInc_s, eAdd_s, eSub_s, eMul_s, eDiv_s, eRem_s, eAnd_s, eXor_s, eNeg_s, eIshl_s, eIshr_s, eDx2_s, ePo2_s, zan_31, zan_255, zan_1, zan_15, zan_m, eLand_s, eLor_s, eLshl_s, eLushr_s, eLcmp_s, eI2l_s, eL2i_s, eDup_s, eDup2_s, eIf_s, eIc_s, eBr_eq, eBr_ne, eBr_lt, eBr_ge, eBr_gt, eBr_le, eNn_s, eNn_n, eG3_s, eG2_s, eGf_s, eP2_s, ePf_s, eAI2_s, eAZ2_s, eAJ2_s, eAQ2_s, eAI_s, eAZ_s, eAJ_s, eAQ_s, eXI2_s, eXZ2_s, eXJ2_s, eXQ2_s, eXI_s, eXZ_s, eXJ_s, eXQ_s, eL2_s, eLn_s, eNa_i, eNa_z, eNa_j, eNq_s, eK_s, eK_n, eR2_s, eRv_s, eRi_s, eCv_s, eCs_s, eCi_s, ePop_s, eMx_s, eMn_s, eCp_s, eCp2_i, eCp2_j, eJd_1, eJd_2, eJd_3, eRI_s, eRZ_s, eRJ_s, eRV_s, zsg_s, zsg_n, zsg_c, List.set_set, Option.map_some, ne_eq, not_false_eq_true, zfit_0, zfit_1, zfit_12, zkd, ↓reduceIte, zc1_I, zc1_P, zset1, zset2, zclr, List.getElem?_cons_zero, List.getElem?_cons_succ, List.set_cons_zero, List.set_cons_succ, List.length_cons, List.length_nil, List.take_succ_cons, List.take_zero, List.drop_succ_cons, List.drop_zero, List.reverse_cons, List.reverse_nil, List.nil_append, List.cons_append, Option.toList_some, Option.toList_none, Nat.reduceAdd, Nat.reduceSub, Nat.reduceLeDiff, Nat.reduceBEq, Nat.reduceEqDiff, Int.reduceToNat, Bool.or_false, Bool.false_or, Bool.or_true, Bool.true_or, Bool.false_eq_true, if_true, if_false, ite_true, ite_false, and_true, true_and, and_self, reduceCtorEq, Int.reduceLT, Int.reduceLE, Int.reduceNeg, Int.reduceAdd, Int.reduceSub, Int.reduceMul, Nat.le_refl, or_true, true_or, or_self, Int.reduceEq, za_7, zf_56, zf_3, e1, c1, ha, kh_6 k, b1, y_lc, y_lcr, c3, e5]
        ((try unfold zr); (try unfold zix); (repeat' first | exact trivial | assumption | (with_reducible rfl) | omega | (refine And.intro ?_ ?_)))
def yeq (p q : yF) : Int := if p = q then 1 else 0
set_option maxRecDepth 100000 in
theorem c_means (k : zKH h F J V P) (hb : rb (V 0) (F 7) (J 8) bk) {a b : Nat} {l : Int} {g : Nat → Nat} {ms : yF} (ha : h[a]? = some (oO 8 [vR b, vI l])) (hg : h[b]? = some (aJ 12 g)) (hm : rm l g ms) (e i s : Nat) (he : e < bk.length) (hi : i + s ≤ ms.length) (hs : s ≤ 3) (Q : zQ) : Ca 7 [vR 6, vI e, vR a, vI i, vI s] h Q ↔ Q (some (vI (yeq (bph bk e) (ysub ms i s)))) h := by
  refine Ca.iff ?_ Q
  have h3 := (hb.2 e he).2.1
  have e1 : (if yal (ymp (bph bk e) ms i s) 0 3 = true then 1 else 0) = yeq (bph bk e) (ysub ms i s) := by
    rw [ymp_all h3.1 h3.2.2 hm.2.1 i s hs]
    unfold yeq
    by_cases x : bph bk e = ysub ms i s
    · rw [if_pos x, if_pos (decide_eq_true_iff.2 x)]
    · rw [if_neg x, if_neg (fun y => x (decide_eq_true_iff.1 y))]
  have := c_means_l k hb ha hg hm e i s he hi 3 0 vU vU (by omega)
  rw [e1] at this
  rw [ce_7, ← Ge_eq (fun p => p == 3) 7 _ 400]; simp only [Ge_s, eM_s, zct_0, zct_I, zct_P, zct_J, eX_iconst, eX_ldc2w, eX_iload, eX_lload, eX_aload, eX_istore, eX_lstore, eX_astore, eX_iinc, eX_iadd, eX_isub, eX_imul, eX_idiv, eX_irem, eX_iand, eX_ishl, eX_ishr, eX_ixor, eX_ineg, eX_dupx2, eX_pop2, eX_land, eX_lor, eX_lshl, eX_lushr, eX_lcmp, eX_i2l, eX_l2i, eX_dup, eX_dup2, eX_ifCond, eX_ificmp, eX_goto, eX_ifnonnull, eX_tableswitch, eX_invokeinterface, eX_multianewarray, eX_getstatic, eX_iaload, eX_laload, eX_baload, eX_aaload, eX_iastore, eX_bastore, eX_lastore, eX_aastore, eX_arraylength, eX_new, eX_newarray, eX_anewarray, eX_invokevirtual, eX_invokestatic, eX_invokespecial, eX_pop, eX_invokedynamic, eX_ireturn, eX_freturn, eX_lreturn, eX_return, eI_s, eJ_s, eP_s, eSI_s, eSJ_s, eSP_s, eInc_s, eAdd_s, eSub_s, eMul_s, eDiv_s, eRem_s, eAnd_s, eXor_s, eNeg_s, eIshl_s, eIshr_s, eDx2_s, ePo2_s, zan_31, zan_255, zan_1, zan_15, zan_m, eLand_s, eLor_s, eLshl_s, eLushr_s, eLcmp_s, eI2l_s, eL2i_s, eDup_s, eDup2_s, eIf_s, eIc_s, eBr_eq, eBr_ne, eBr_lt, eBr_ge, eBr_gt, eBr_le, eNn_s, eNn_n, eG3_s, eG2_s, eGf_s, eP2_s, ePf_s, eAI2_s, eAZ2_s, eAJ2_s, eAQ2_s, eAI_s, eAZ_s, eAJ_s, eAQ_s, eXI2_s, eXZ2_s, eXJ2_s, eXQ2_s, eXI_s, eXZ_s, eXJ_s, eXQ_s, eL2_s, eLn_s, eNa_i, eNa_z, eNa_j, eNq_s, eK_s, eK_n, eR2_s, eRv_s, eRi_s, eCv_s, eCs_s, eCi_s, ePop_s, eMx_s, eMn_s, eCp_s, eCp2_i, eCp2_j, eJd_1, eJd_2, eJd_3, eRI_s, eRZ_s, eRJ_s, eRV_s, zsg_s, zsg_n, zsg_c, List.set_set, Option.map_some, ne_eq, not_false_eq_true, zfit_0, zfit_1, zfit_12, zkd, ↓reduceIte, zc1_I, zc1_P, zset1, zset2, zclr, List.getElem?_cons_zero, List.getElem?_cons_succ, List.set_cons_zero, List.set_cons_succ, List.length_cons, List.length_nil, List.take_succ_cons, List.take_zero, List.drop_succ_cons, List.drop_zero, List.reverse_cons, List.reverse_nil, List.nil_append, List.cons_append, Option.toList_some, Option.toList_none, Nat.reduceAdd, Nat.reduceSub, Nat.reduceLeDiff, Nat.reduceBEq, Nat.reduceEqDiff, Int.reduceToNat, Bool.or_false, Bool.false_or, Bool.or_true, Bool.true_or, Bool.false_eq_true, if_true, if_false, ite_true, ite_false, and_true, true_and, and_self, reduceCtorEq, Int.reduceLT, Int.reduceLE, Int.reduceNeg, Int.reduceAdd, Int.reduceSub, Int.reduceMul, Nat.le_refl, or_true, true_or, or_self, Int.reduceEq, za_7]
  exact this
def yfind (bk : yB) (p : yF) (i d : Nat) : Int := yfd (fun e => decide (bph bk e = p)) i d
set_option maxRecDepth 100000 in
theorem c_find_l (k : zKH h F J V P) (hb : rb (V 0) (F 7) (J 8) bk) {a b : Nat} {l : Int} {g : Nat → Nat} {ms : yF} (ha : h[a]? = some (oO 8 [vR b, vI l])) (hg : h[b]? = some (aJ 12 g)) (hm : rm l g ms) (i s : Nat) (hi : i + s ≤ ms.length) (hs : s ≤ 3) : ∀ (d e : Nat), e + d = bk.length → Go 8 3 [vR 6, vR a, vI i, vI s, vI e] [] h (fun r h' => r = some (vI (yfind bk (ysub ms i s) e d)) ∧ h' = h) := by
  intro d
  have v0 : V 0 = bk.length := hb.1.1
  have l0 := hb.1.2
  induction d with
  | zero =>
    intro e he
    obtain rfl : e = bk.length := by omega
    have e9 : yfind bk (ysub ms i s) bk.length 0 = -6 := rfl
    rw [e9]
    refine Go_on (fun _ => false) 400 ?_; simp only [Ge_s, eM_s, zct_0, zct_I, zct_P, zct_J, eX_iconst, eX_ldc2w, eX_iload, eX_lload, eX_aload, eX_istore, eX_lstore, eX_astore, eX_iinc, eX_iadd, eX_isub, eX_imul, eX_idiv, eX_irem, eX_iand, eX_ishl, eX_ishr, eX_ixor, eX_ineg, eX_dupx2, eX_pop2, eX_land, eX_lor, eX_lshl, eX_lushr, eX_lcmp, eX_i2l, eX_l2i, eX_dup, eX_dup2, eX_ifCond, eX_ificmp, eX_goto, eX_ifnonnull, eX_tableswitch, eX_invokeinterface, eX_multianewarray, eX_getstatic, eX_iaload, eX_laload, eX_baload, eX_aaload, eX_iastore, eX_bastore, eX_lastore, eX_aastore, eX_arraylength, eX_new, eX_newarray, eX_anewarray, eX_invokevirtual, eX_invokestatic, eX_invokespecial, eX_pop, eX_invokedynamic, eX_ireturn, eX_freturn, eX_lreturn, eX_return, eI_s, eJ_s, eP_s, eSI_s, eSJ_s, eSP_s, eInc_s, eAdd_s, eSub_s, eMul_s, eDiv_s, eRem_s, eAnd_s, eXor_s, eNeg_s, eIshl_s, eIshr_s, eDx2_s, ePo2_s, zan_31, zan_255, zan_1, zan_15, zan_m, eLand_s, eLor_s, eLshl_s, eLushr_s, eLcmp_s, eI2l_s, eL2i_s, eDup_s, eDup2_s, eIf_s, eIc_s, eBr_eq, eBr_ne, eBr_lt, eBr_ge, eBr_gt, eBr_le, eNn_s, eNn_n, eG3_s, eG2_s, eGf_s, eP2_s, ePf_s, eAI2_s, eAZ2_s, eAJ2_s, eAQ2_s, eAI_s, eAZ_s, eAJ_s, eAQ_s, eXI2_s, eXZ2_s, eXJ2_s, eXQ2_s, eXI_s, eXZ_s, eXJ_s, eXQ_s, eL2_s, eLn_s, eNa_i, eNa_z, eNa_j, eNq_s, eK_s, eK_n, eR2_s, eRv_s, eRi_s, eCv_s, eCs_s, eCi_s, ePop_s, eMx_s, eMn_s, eCp_s, eCp2_i, eCp2_j, eJd_1, eJd_2, eJd_3, eRI_s, eRZ_s, eRJ_s, eRV_s, zsg_s, zsg_n, zsg_c, List.set_set, Option.map_some, ne_eq, not_false_eq_true, zfit_0, zfit_1, zfit_12, zkd, ↓reduceIte, zc1_I, zc1_P, zset1, zset2, zclr, List.getElem?_cons_zero, List.getElem?_cons_succ, List.set_cons_zero, List.set_cons_succ, List.length_cons, List.length_nil, List.take_succ_cons, List.take_zero, List.drop_succ_cons, List.drop_zero, List.reverse_cons, List.reverse_nil, List.nil_append, List.cons_append, Option.toList_some, Option.toList_none, Nat.reduceAdd, Nat.reduceSub, Nat.reduceLeDiff, Nat.reduceBEq, Nat.reduceEqDiff, Int.reduceToNat, Bool.or_false, Bool.false_or, Bool.or_true, Bool.true_or, Bool.false_eq_true, if_true, if_false, ite_true, ite_false, and_true, true_and, and_self, reduceCtorEq, Int.reduceLT, Int.reduceLE, Int.reduceNeg, Int.reduceAdd, Int.reduceSub, Int.reduceMul, Nat.le_refl, or_true, true_or, or_self, Int.reduceEq, za_8, kh_6 k, v0, Int.lt_irrefl]
    ((try unfold zr); (try unfold zix); (repeat' first | exact trivial | assumption | (with_reducible rfl) | omega | (refine And.intro ?_ ?_)))
  | succ d ih =>
    intro e he
    have e1 : (e : Int) < bk.length := by omega
    have b1 := c_means k hb ha hg hm e i s (by omega) hi hs
    by_cases c : bph bk e = ysub ms i s
    · have c1 : yeq (bph bk e) (ysub ms i s) = 1 := if_pos c
      have c2 : yfind bk (ysub ms i s) e (d + 1) = e := by
        show (if decide (bph bk e = ysub ms i s) = true then _ else _) = _
        rw [if_pos (decide_eq_true_iff.2 c)]
      rw [c2]
      refine Go_on (fun _ => false) 400 ?_; simp only [Ge_s, eM_s, zct_0, zct_I, zct_P, zct_J, eX_iconst, eX_ldc2w, eX_iload, eX_lload, eX_aload, eX_istore, eX_lstore, eX_astore, eX_iinc, eX_iadd, eX_isub, eX_imul, eX_idiv, eX_irem, eX_iand, eX_ishl, eX_ishr, eX_ixor, eX_ineg, eX_dupx2, eX_pop2, eX_land, eX_lor, eX_lshl, eX_lushr, eX_lcmp, eX_i2l, eX_l2i, eX_dup, eX_dup2, eX_ifCond, eX_ificmp, eX_goto, eX_ifnonnull, eX_tableswitch, eX_invokeinterface, eX_multianewarray, eX_getstatic, eX_iaload, eX_laload, eX_baload, eX_aaload, eX_iastore, eX_bastore, eX_lastore, eX_aastore, eX_arraylength, eX_new, eX_newarray, eX_anewarray, eX_invokevirtual, eX_invokestatic, eX_invokespecial, eX_pop, eX_invokedynamic, eX_ireturn, eX_freturn, eX_lreturn, eX_return, eI_s, eJ_s, eP_s, eSI_s, eSJ_s, eSP_s, eInc_s, eAdd_s, eSub_s, eMul_s, eDiv_s, eRem_s, eAnd_s, eXor_s, eNeg_s, eIshl_s, eIshr_s, eDx2_s, ePo2_s, zan_31, zan_255, zan_1, zan_15, zan_m, eLand_s, eLor_s, eLshl_s, eLushr_s, eLcmp_s, eI2l_s, eL2i_s, eDup_s, eDup2_s, eIf_s, eIc_s, eBr_eq, eBr_ne, eBr_lt, eBr_ge, eBr_gt, eBr_le, eNn_s, eNn_n, eG3_s, eG2_s, eGf_s, eP2_s, ePf_s, eAI2_s, eAZ2_s, eAJ2_s, eAQ2_s, eAI_s, eAZ_s, eAJ_s, eAQ_s, eXI2_s, eXZ2_s, eXJ2_s, eXQ2_s, eXI_s, eXZ_s, eXJ_s, eXQ_s, eL2_s, eLn_s, eNa_i, eNa_z, eNa_j, eNq_s, eK_s, eK_n, eR2_s, eRv_s, eRi_s, eCv_s, eCs_s, eCi_s, ePop_s, eMx_s, eMn_s, eCp_s, eCp2_i, eCp2_j, eJd_1, eJd_2, eJd_3, eRI_s, eRZ_s, eRJ_s, eRV_s, zsg_s, zsg_n, zsg_c, List.set_set, Option.map_some, ne_eq, not_false_eq_true, zfit_0, zfit_1, zfit_12, zkd, ↓reduceIte, zc1_I, zc1_P, zset1, zset2, zclr, List.getElem?_cons_zero, List.getElem?_cons_succ, List.set_cons_zero, List.set_cons_succ, List.length_cons, List.length_nil, List.take_succ_cons, List.take_zero, List.drop_succ_cons, List.drop_zero, List.reverse_cons, List.reverse_nil, List.nil_append, List.cons_append, Option.toList_some, Option.toList_none, Nat.reduceAdd, Nat.reduceSub, Nat.reduceLeDiff, Nat.reduceBEq, Nat.reduceEqDiff, Int.reduceToNat, Bool.or_false, Bool.false_or, Bool.or_true, Bool.true_or, Bool.false_eq_true, if_true, if_false, ite_true, ite_false, and_true, true_and, and_self, reduceCtorEq, Int.reduceLT, Int.reduceLE, Int.reduceNeg, Int.reduceAdd, Int.reduceSub, Int.reduceMul, Nat.le_refl, or_true, true_or, or_self, Int.reduceEq, za_8, zf_7, kh_6 k, v0, e1, b1, c1]
      ((try unfold zr); (try unfold zix); (repeat' first | exact trivial | assumption | (with_reducible rfl) | omega | (refine And.intro ?_ ?_)))
    · have c1 : yeq (bph bk e) (ysub ms i s) = 0 := if_neg c
      have c2 : yfind bk (ysub ms i s) e (d + 1) = yfind bk (ysub ms i s) (e + 1) d := by
        show (if decide (bph bk e = ysub ms i s) = true then _ else _) = _
        rw [if_neg (fun y => c (decide_eq_true_iff.1 y))]
        rfl
      rw [c2]
      have c3 := ih (e + 1) (by omega)
      refine Go_on (fun p => p == 3) 400 ?_; simp only [Ge_s, eM_s, zct_0, zct_I, zct_P, zct_J, eX_iconst, eX_ldc2w, eX_iload, eX_lload, eX_aload, eX_istore, eX_lstore, eX_astore, eX_iinc, eX_iadd, eX_isub, eX_imul, eX_idiv, eX_irem, eX_iand, eX_ishl, eX_ishr, eX_ixor, eX_ineg, eX_dupx2, eX_pop2, eX_land, eX_lor, eX_lshl, eX_lushr, eX_lcmp, eX_i2l, eX_l2i, eX_dup, eX_dup2, eX_ifCond, eX_ificmp, eX_goto, eX_ifnonnull, eX_tableswitch, eX_invokeinterface, eX_multianewarray, eX_getstatic, eX_iaload, eX_laload, eX_baload, eX_aaload, eX_iastore, eX_bastore, eX_lastore, eX_aastore, eX_arraylength, eX_new, eX_newarray, eX_anewarray, eX_invokevirtual, eX_invokestatic, eX_invokespecial, eX_pop, eX_invokedynamic, eX_ireturn, eX_freturn, eX_lreturn, eX_return, eI_s, eJ_s, eP_s, eSI_s, eSJ_s, eSP_s, eInc_s, eAdd_s, eSub_s, eMul_s, eDiv_s, eRem_s, eAnd_s, eXor_s, eNeg_s, eIshl_s, eIshr_s, eDx2_s, ePo2_s, zan_31, zan_255, zan_1, zan_15, zan_m, eLand_s, eLor_s, eLshl_s, eLushr_s, eLcmp_s, eI2l_s, eL2i_s, eDup_s, eDup2_s, eIf_s, eIc_s, eBr_eq, eBr_ne, eBr_lt, eBr_ge, eBr_gt, eBr_le, eNn_s, eNn_n, eG3_s, eG2_s, eGf_s, eP2_s, ePf_s, eAI2_s, eAZ2_s, eAJ2_s, eAQ2_s, eAI_s, eAZ_s, eAJ_s, eAQ_s, eXI2_s, eXZ2_s, eXJ2_s, eXQ2_s, eXI_s, eXZ_s, eXJ_s, eXQ_s, eL2_s, eLn_s, eNa_i, eNa_z, eNa_j, eNq_s, eK_s, eK_n, eR2_s, eRv_s, eRi_s, eCv_s, eCs_s, eCi_s, ePop_s, eMx_s, eMn_s, eCp_s, eCp2_i, eCp2_j, eJd_1, eJd_2, eJd_3, eRI_s, eRZ_s, eRJ_s, eRV_s, zsg_s, zsg_n, zsg_c, List.set_set, Option.map_some, ne_eq, not_false_eq_true, zfit_0, zfit_1, zfit_12, zkd, ↓reduceIte, zc1_I, zc1_P, zset1, zset2, zclr, List.getElem?_cons_zero, List.getElem?_cons_succ, List.set_cons_zero, List.set_cons_succ, List.length_cons, List.length_nil, List.take_succ_cons, List.take_zero, List.drop_succ_cons, List.drop_zero, List.reverse_cons, List.reverse_nil, List.nil_append, List.cons_append, Option.toList_some, Option.toList_none, Nat.reduceAdd, Nat.reduceSub, Nat.reduceLeDiff, Nat.reduceBEq, Nat.reduceEqDiff, Int.reduceToNat, Bool.or_false, Bool.false_or, Bool.or_true, Bool.true_or, Bool.false_eq_true, if_true, if_false, ite_true, ite_false, and_true, true_and, and_self, reduceCtorEq, Int.reduceLT, Int.reduceLE, Int.reduceNeg, Int.reduceAdd, Int.reduceSub, Int.reduceMul, Nat.le_refl, or_true, true_or, or_self, Int.reduceEq, za_8, zf_7, kh_6 k, v0, e1, b1, c1]
      ((try unfold zr); (try unfold zix); (repeat' first | exact trivial | assumption | (with_reducible rfl) | omega | (refine And.intro ?_ ?_)))
set_option maxRecDepth 100000 in
theorem c_find (k : zKH h F J V P) (hb : rb (V 0) (F 7) (J 8) bk) {a b : Nat} {l : Int} {g : Nat → Nat} {ms : yF} (ha : h[a]? = some (oO 8 [vR b, vI l])) (hg : h[b]? = some (aJ 12 g)) (hm : rm l g ms) (i s : Nat) (hi : i + s ≤ ms.length) (hs : s ≤ 3) (Q : zQ) : Ca 8 [vR 6, vR a, vI i, vI s] h Q ↔ Q (some (vI (yfind bk (ysub ms i s) 0 bk.length))) h := by
  refine Ca.iff ?_ Q
  rw [ce_8, ← Ge_eq (fun p => p == 3) 8 _ 400]; simp only [Ge_s, eM_s, zct_0, zct_I, zct_P, zct_J, eX_iconst, eX_ldc2w, eX_iload, eX_lload, eX_aload, eX_istore, eX_lstore, eX_astore, eX_iinc, eX_iadd, eX_isub, eX_imul, eX_idiv, eX_irem, eX_iand, eX_ishl, eX_ishr, eX_ixor, eX_ineg, eX_dupx2, eX_pop2, eX_land, eX_lor, eX_lshl, eX_lushr, eX_lcmp, eX_i2l, eX_l2i, eX_dup, eX_dup2, eX_ifCond, eX_ificmp, eX_goto, eX_ifnonnull, eX_tableswitch, eX_invokeinterface, eX_multianewarray, eX_getstatic, eX_iaload, eX_laload, eX_baload, eX_aaload, eX_iastore, eX_bastore, eX_lastore, eX_aastore, eX_arraylength, eX_new, eX_newarray, eX_anewarray, eX_invokevirtual, eX_invokestatic, eX_invokespecial, eX_pop, eX_invokedynamic, eX_ireturn, eX_freturn, eX_lreturn, eX_return, eI_s, eJ_s, eP_s, eSI_s, eSJ_s, eSP_s, eInc_s, eAdd_s, eSub_s, eMul_s, eDiv_s, eRem_s, eAnd_s, eXor_s, eNeg_s, eIshl_s, eIshr_s, eDx2_s, ePo2_s, zan_31, zan_255, zan_1, zan_15, zan_m, eLand_s, eLor_s, eLshl_s, eLushr_s, eLcmp_s, eI2l_s, eL2i_s, eDup_s, eDup2_s, eIf_s, eIc_s, eBr_eq, eBr_ne, eBr_lt, eBr_ge, eBr_gt, eBr_le, eNn_s, eNn_n, eG3_s, eG2_s, eGf_s, eP2_s, ePf_s, eAI2_s, eAZ2_s, eAJ2_s, eAQ2_s, eAI_s, eAZ_s, eAJ_s, eAQ_s, eXI2_s, eXZ2_s, eXJ2_s, eXQ2_s, eXI_s, eXZ_s, eXJ_s, eXQ_s, eL2_s, eLn_s, eNa_i, eNa_z, eNa_j, eNq_s, eK_s, eK_n, eR2_s, eRv_s, eRi_s, eCv_s, eCs_s, eCi_s, ePop_s, eMx_s, eMn_s, eCp_s, eCp2_i, eCp2_j, eJd_1, eJd_2, eJd_3, eRI_s, eRZ_s, eRJ_s, eRV_s, zsg_s, zsg_n, zsg_c, List.set_set, Option.map_some, ne_eq, not_false_eq_true, zfit_0, zfit_1, zfit_12, zkd, ↓reduceIte, zc1_I, zc1_P, zset1, zset2, zclr, List.getElem?_cons_zero, List.getElem?_cons_succ, List.set_cons_zero, List.set_cons_succ, List.length_cons, List.length_nil, List.take_succ_cons, List.take_zero, List.drop_succ_cons, List.drop_zero, List.reverse_cons, List.reverse_nil, List.nil_append, List.cons_append, Option.toList_some, Option.toList_none, Nat.reduceAdd, Nat.reduceSub, Nat.reduceLeDiff, Nat.reduceBEq, Nat.reduceEqDiff, Int.reduceToNat, Bool.or_false, Bool.false_or, Bool.or_true, Bool.true_or, Bool.false_eq_true, if_true, if_false, ite_true, ite_false, and_true, true_and, and_self, reduceCtorEq, Int.reduceLT, Int.reduceLE, Int.reduceNeg, Int.reduceAdd, Int.reduceSub, Int.reduceMul, Nat.le_refl, or_true, true_or, or_self, Int.reduceEq, za_8]
  exact c_find_l k hb ha hg hm i s hi hs bk.length 0 (by omega)
end
