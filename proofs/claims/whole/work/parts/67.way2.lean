/-! The model: findWay, its loops -/
def wR (mp i d : Nat) (L : List yQ) (a b c e : Nat → Int) : Prop := ∀ j, j ≤ d → (a (i + j) = (L.getD j yq0).1 ∧ b (i + j) = (L.getD j yq0).2.1) ∧ (j < d → c (i + j) = ((L.getD j yq0).2.2.1 : Int) ∧ (mp = 0 → e (i + j) = (L.getD j yq0).2.2.2))
set_option maxRecDepth 100000 in
theorem wR_up {mp i d : Nat} {L : List yQ} {a b c e : Nat → Int} (w : wR mp (i + 1) d L a b c e) (x y z u : Int) : wR mp (i + 1) d L (va_up a i x) (va_up b i y) (va_up c i z) (va_up e i u) := by
  intro j hj
  have := w j hj
  rw [y_up, y_up, y_up, y_up, if_neg (by omega), if_neg (by omega), if_neg (by omega), if_neg (by omega)]
  exact this
def wq (i : Nat) (q : yQ) (a b c e : Nat → Int) : Prop := (a i = q.1 ∧ -1 ≤ q.1 ∧ q.1 ≤ 1000000) ∧ (0 ≤ q.1 → b i = q.2.1 ∧ c i = (q.2.2.1 : Int) ∧ e i = q.2.2.2 ∧ 0 ≤ q.2.1 ∧ q.2.1 ≤ 1000000)
set_option maxRecDepth 100000 in
theorem ypc_ge {co wi : Int} (h1 : 1 ≤ co) (h2 : 2 ≤ wi) {n : Nat} (hn : 1 ≤ n) : co ≤ ypc co wi n := by
  unfold ypc
  have a1 : 1 ≤ ((n : Int) + wi - 1) / wi := by
    rw [Int.le_ediv_iff_mul_le (by omega)]
    omega
  have := Int.mul_le_mul_of_nonneg_left a1 (show 0 ≤ co by omega)
  omega
section
variable {h : zH} {F : Nat → Nat → Int} {J : Nat → Nat → Nat} {V : Nat → Int} {P : Nat → Nat → Option Nat} {A : yA} {pd : List Int} {ms : yF} {S : yS}
set_option maxRecDepth 100000 in
theorem m_way_i (k : zKH h F J V P) (xX : rX F V ms) (g : gS S) (r : rM (F 35) S) (wo mf : Int) (mp : Nat) (hwo : zr wo) (hmp : mp = 0 ∨ (0 ≤ mf ∧ mf + mp ≤ ms.length)) (hmp3 : mp ≤ 3) (i d : Nat) (hd : i + d + 1 = ms.length) (L : List yQ) (hL : L.length = d + 1) (hr : ∀ j, yqR d (L.getD j yq0)) (Q : zQ) : ∀ (m : Nat) (q : yQ) (a b c e : Nat → Int) (z6 z7 z8 z9 z10 : zV), m ≤ 3 → m ≤ L.length → wq i q a b c e → wR mp (i + 1) d L a b c e → (∀ a b c e z6 z7 z8 z9 z10, wq i (ymf (ywC (sbk S) ms wo mf mp i) (fun s => yeo (sbk S) wo (ysub ms i s) (sbk S).length) (ypm (sco S) (swi S) ms i) (sco S) L m q) a b c e → wR mp (i + 1) d L a b c e → Go 124 276 [vR 34, vI wo, vI mf, vI mp, vI i, vI 0, z6, z7, z8, z9, z10] [] (hhM h a b c e) Q) → Go 124 65 [vR 34, vI wo, vI mf, vI mp, vI i, vI m, z6, z7, z8, z9, z10] [] (hhM h a b c e) Q := by
  intro m
  have m12 := xX.2.2.1.2.1
  induction m with
  | zero =>
    intro q a b c e z6 z7 z8 z9 z10 hm hmL hq hw hQ
    have c3 := hQ a b c e z6 z7 z8 z9 z10 hq hw
    have t0 : ((0 : Nat) : Int) = 0 := rfl
    rw [t0]
    refine Go_on (fun p => p == 276) 400 ?_; simp only [Ge_s, eM_s, zct_0, zct_I, zct_P, zct_J, eX_iconst, eX_ldc2w, eX_iload, eX_lload, eX_aload, eX_istore, eX_lstore, eX_astore, eX_iinc, eX_iadd, eX_isub, eX_imul, eX_idiv, eX_irem, eX_iand, eX_land, eX_lor, eX_lshl, eX_lushr, eX_lcmp, eX_i2l, eX_l2i, eX_dup, eX_dup2, eX_ifCond, eX_ificmp, eX_goto, eX_ifnonnull, eX_tableswitch, eX_invokeinterface, eX_multianewarray, eX_getstatic, eX_iaload, eX_laload, eX_baload, eX_aaload, eX_iastore, eX_bastore, eX_lastore, eX_aastore, eX_arraylength, eX_new, eX_newarray, eX_anewarray, eX_invokevirtual, eX_invokestatic, eX_invokespecial, eX_pop, eX_invokedynamic, eX_ireturn, eX_freturn, eX_lreturn, eX_return, eI_s, eJ_s, eP_s, eSI_s, eSJ_s, eSP_s, eInc_s, eAdd_s, eSub_s, eMul_s, eDiv_s, eRem_s, eAnd_s, eLand_s, eLor_s, eLshl_s, eLushr_s, eLcmp_s, eI2l_s, eL2i_s, eDup_s, eDup2_s, eIf_s, eIc_s, eBr_eq, eBr_ne, eBr_lt, eBr_ge, eBr_gt, eBr_le, eNn_s, eNn_n, eG3_s, eG2_s, eGf_s, eP2_s, ePf_s, eAI2_s, eAZ2_s, eAJ2_s, eAQ2_s, eAI_s, eAZ_s, eAJ_s, eAQ_s, eXI2_s, eXZ2_s, eXJ2_s, eXQ2_s, eXI_s, eXZ_s, eXJ_s, eXQ_s, eL2_s, eLn_s, eNa_i, eNa_z, eNa_j, eNq_s, eK_s, eK_n, eR2_s, eRv_s, eRi_s, eCv_s, eCs_s, eCi_s, ePop_s, eMx_s, eMn_s, eCp_s, eCp2_i, eCp2_j, eJd_1, eJd_2, eJd_3, eRI_s, eRZ_s, eRJ_s, eRV_s, zsg_s, zsg_n, zsg_c, List.set_set, Option.map_some, ne_eq, not_false_eq_true, zfit_0, zfit_1, zfit_12, zkd, ↓reduceIte, zc1_I, zc1_P, zset1, zset2, zclr, List.getElem?_cons_zero, List.getElem?_cons_succ, List.set_cons_zero, List.set_cons_succ, List.length_cons, List.length_nil, List.take_succ_cons, List.take_zero, List.drop_succ_cons, List.drop_zero, List.reverse_cons, List.reverse_nil, List.nil_append, List.cons_append, Option.toList_some, Option.toList_none, Nat.reduceAdd, Nat.reduceSub, Nat.reduceLeDiff, Nat.reduceBEq, Nat.reduceEqDiff, Int.reduceToNat, Bool.or_false, Bool.false_or, Bool.or_true, Bool.true_or, Bool.false_eq_true, if_true, if_false, ite_true, ite_false, and_true, true_and, and_self, reduceCtorEq, Int.reduceLT, Int.reduceLE, Int.reduceNeg, Int.reduceAdd, Int.reduceSub, Int.reduceMul, Nat.le_refl, or_true, true_or, or_self, Int.reduceEq, za_124]
    ((try unfold zr); (try unfold zix); (repeat' first | exact trivial | assumption | (with_reducible rfl) | omega | (refine And.intro ?_ ?_)))
  | succ m ih =>
    intro q a b c e z6 z7 z8 z9 z10 hm hmL hq hw hQ
    refine m_way_70 k xX g r a b c e i (m + 1) (by omega) (by omega) wo mf mp hwo hmp hmp3 z6 z7 z8 z9 z10 Q ?_
    refine m_way_113 k xX g r a b c e i (m + 1) (by omega) (by omega) _ _ _ _ _ _ _ _ (by split; exact Or.inr rfl; exact Or.inl rfl) Q ?_
    have hwm := hw m (by omega)
    have ea : a (i + (m + 1)) = (L.getD m yq0).1 := by rw [show i + (m + 1) = i + 1 + m by omega]; exact hwm.1.1
    have eb : b (i + (m + 1)) = (L.getD m yq0).2.1 := by rw [show i + (m + 1) = i + 1 + m by omega]; exact hwm.1.2
    have hrm := hr m
    unfold yqR at hrm
    have rco := g.1.1
    have rpc : 0 ≤ ypm (sco S) (swi S) ms i ∧ ypm (sco S) (swi S) ms i ≤ 1287 := by
      have w := (ywd_ok xX.2.2.1.2.2 (i : Int)).2
      rw [ywd_nat] at w
      exact ypc_r g.1.1 g.1.2.1 w
    have ek : ywk (ywC (sbk S) ms wo mf mp i) (ypm (sco S) (swi S) ms i) (sco S) L (m + 1) = (if ywC (sbk S) ms wo mf mp i (m + 1) = true then sco S else ypm (sco S) (swi S) ms i) + (L.getD m yq0).1 := rfl
    have en : ywn L (m + 1) = 1 + (L.getD m yq0).2.1 := rfl
    have ecc : (if (if ywC (sbk S) ms wo mf mp i (m + 1) = true then (1 : Int) else 0) = 1 then sco S else ypm (sco S) (swi S) ms i) = (if ywC (sbk S) ms wo mf mp i (m + 1) = true then sco S else ypm (sco S) (swi S) ms i) := by
      by_cases c0 : ywC (sbk S) ms wo mf mp i (m + 1) = true
      · rw [if_pos c0, if_pos rfl, if_pos c0]
      · rw [if_neg c0, if_neg (by omega), if_neg c0]
    rw [ecc, ea, eb, ← ek, ← en]
    have eym : ymf (ywC (sbk S) ms wo mf mp i) (fun s => yeo (sbk S) wo (ysub ms i s) (sbk S).length) (ypm (sco S) (swi S) ms i) (sco S) L (m + 1) q = ymf (ywC (sbk S) ms wo mf mp i) (fun s => yeo (sbk S) wo (ysub ms i s) (sbk S).length) (ypm (sco S) (swi S) ms i) (sco S) L m (if (ywC (sbk S) ms wo mf mp i (m + 1) = true ∨ m + 1 = 1) ∧ (q.1 < 0 ∨ ywk (ywC (sbk S) ms wo mf mp i) (ypm (sco S) (swi S) ms i) (sco S) L (m + 1) < q.1 ∨ (ywk (ywC (sbk S) ms wo mf mp i) (ypm (sco S) (swi S) ms i) (sco S) L (m + 1) = q.1 ∧ ywn L (m + 1) < q.2.1)) then (ywk (ywC (sbk S) ms wo mf mp i) (ypm (sco S) (swi S) ms i) (sco S) L (m + 1), ywn L (m + 1), m + 1, yeo (sbk S) wo (ysub ms i (m + 1)) (sbk S).length) else q) := rfl
    rw [eym] at hQ
    have rk : 0 ≤ ywk (ywC (sbk S) ms wo mf mp i) (ypm (sco S) (swi S) ms i) (sco S) L (m + 1) ∧ ywk (ywC (sbk S) ms wo mf mp i) (ypm (sco S) (swi S) ms i) (sco S) L (m + 1) ≤ 1000000 := by
      rw [ek]
      split <;> omega
    have rn : 0 ≤ ywn L (m + 1) ∧ ywn L (m + 1) ≤ 1000000 := by rw [en]; omega
    generalize ywk (ywC (sbk S) ms wo mf mp i) (ypm (sco S) (swi S) ms i) (sco S) L (m + 1) = K at *
    generalize ywn L (m + 1) = N at *
    have em : ((m + 1 : Nat) : Int) = (m : Int) + 1 := by omega
    -- behind 270
    have next : ∀ (q' : yQ) (a' b' c' e' : Nat → Int) (bb : Int), wq i q' a' b' c' e' → wR mp (i + 1) d L a' b' c' e' → (if (ywC (sbk S) ms wo mf mp i (m + 1) = true ∨ m + 1 = 1) ∧ (q.1 < 0 ∨ K < q.1 ∨ (K = q.1 ∧ N < q.2.1)) then (K, N, m + 1, yeo (sbk S) wo (ysub ms i (m + 1)) (sbk S).length) else q) = q' → Go 124 270 [vR 34, vI wo, vI mf, vI mp, vI i, vI ((m + 1 : Nat) : Int), vI (yeo (sbk S) wo (ysub ms i (m + 1)) (sbk S).length), vI (if ywC (sbk S) ms wo mf mp i (m + 1) = true then 1 else 0), vI K, vI N, vI bb] [] (hhM h a' b' c' e') Q := by
      intro q' a' b' c' e' bb hq' hw' heq
      rw [heq] at hQ
      have c3 := ih q' a' b' c' e' (vI (yeo (sbk S) wo (ysub ms i (m + 1)) (sbk S).length)) (vI (if ywC (sbk S) ms wo mf mp i (m + 1) = true then 1 else 0)) (vI K) (vI N) (vI bb) (by omega) (by omega) hq' hw' hQ
      have e9 : (m : Int) + 1 + -1 = m := by omega
      rw [em]
      refine Go_on (fun p => p == 65) 400 ?_; simp only [Ge_s, eM_s, zct_0, zct_I, zct_P, zct_J, eX_iconst, eX_ldc2w, eX_iload, eX_lload, eX_aload, eX_istore, eX_lstore, eX_astore, eX_iinc, eX_iadd, eX_isub, eX_imul, eX_idiv, eX_irem, eX_iand, eX_land, eX_lor, eX_lshl, eX_lushr, eX_lcmp, eX_i2l, eX_l2i, eX_dup, eX_dup2, eX_ifCond, eX_ificmp, eX_goto, eX_ifnonnull, eX_tableswitch, eX_invokeinterface, eX_multianewarray, eX_getstatic, eX_iaload, eX_laload, eX_baload, eX_aaload, eX_iastore, eX_bastore, eX_lastore, eX_aastore, eX_arraylength, eX_new, eX_newarray, eX_anewarray, eX_invokevirtual, eX_invokestatic, eX_invokespecial, eX_pop, eX_invokedynamic, eX_ireturn, eX_freturn, eX_lreturn, eX_return, eI_s, eJ_s, eP_s, eSI_s, eSJ_s, eSP_s, eInc_s, eAdd_s, eSub_s, eMul_s, eDiv_s, eRem_s, eAnd_s, eLand_s, eLor_s, eLshl_s, eLushr_s, eLcmp_s, eI2l_s, eL2i_s, eDup_s, eDup2_s, eIf_s, eIc_s, eBr_eq, eBr_ne, eBr_lt, eBr_ge, eBr_gt, eBr_le, eNn_s, eNn_n, eG3_s, eG2_s, eGf_s, eP2_s, ePf_s, eAI2_s, eAZ2_s, eAJ2_s, eAQ2_s, eAI_s, eAZ_s, eAJ_s, eAQ_s, eXI2_s, eXZ2_s, eXJ2_s, eXQ2_s, eXI_s, eXZ_s, eXJ_s, eXQ_s, eL2_s, eLn_s, eNa_i, eNa_z, eNa_j, eNq_s, eK_s, eK_n, eR2_s, eRv_s, eRi_s, eCv_s, eCs_s, eCi_s, ePop_s, eMx_s, eMn_s, eCp_s, eCp2_i, eCp2_j, eJd_1, eJd_2, eJd_3, eRI_s, eRZ_s, eRJ_s, eRV_s, zsg_s, zsg_n, zsg_c, List.set_set, Option.map_some, ne_eq, not_false_eq_true, zfit_0, zfit_1, zfit_12, zkd, ↓reduceIte, zc1_I, zc1_P, zset1, zset2, zclr, List.getElem?_cons_zero, List.getElem?_cons_succ, List.set_cons_zero, List.set_cons_succ, List.length_cons, List.length_nil, List.take_succ_cons, List.take_zero, List.drop_succ_cons, List.drop_zero, List.reverse_cons, List.reverse_nil, List.nil_append, List.cons_append, Option.toList_some, Option.toList_none, Nat.reduceAdd, Nat.reduceSub, Nat.reduceLeDiff, Nat.reduceBEq, Nat.reduceEqDiff, Int.reduceToNat, Bool.or_false, Bool.false_or, Bool.or_true, Bool.true_or, Bool.false_eq_true, if_true, if_false, ite_true, ite_false, and_true, true_and, and_self, reduceCtorEq, Int.reduceLT, Int.reduceLE, Int.reduceNeg, Int.reduceAdd, Int.reduceSub, Int.reduceMul, Nat.le_refl, or_true, true_or, or_self, Int.reduceEq, za_124, e9]
      ((try unfold zr); (try unfold zix); (repeat' first | exact trivial | assumption | (with_reducible rfl) | omega | (refine And.intro ?_ ?_)))
    have hcc : (if ywC (sbk S) ms wo mf mp i (m + 1) = true then (1 : Int) else 0) = 1 ↔ ywC (sbk S) ms wo mf mp i (m + 1) = true := by
      split
      · simp [*]
      · simp [*]
    refine m_way_165 k a b c e i (by omega) _ _ _ _ _ _ _ _ _ (by rw [hq.1.1]; exact hq.1.2) (fun x => ?_) rk rn Q (fun hb => ?_) (fun hb => ?_)
    · rw [hq.1.1] at x
      have := hq.2 x
      rw [this.1]; exact this.2.2.2
    · have hb' : q.1 < 0 ∨ K < q.1 ∨ (K = q.1 ∧ N < q.2.1) := by
        rw [hq.1.1] at hb
        by_cases x : 0 ≤ q.1
        · rw [(hq.2 x).1] at hb; exact hb
        · exact Or.inl (by omega)
      refine m_way_218 k a b c e i (m + 1) (by omega) _ _ _ _ _ _ _ _ (by split; exact Or.inr rfl; exact Or.inl rfl) (Or.inr rfl) Q (fun hy => ?_) (fun hy => ?_) (by omega)
      · refine next (K, N, m + 1, yeo (sbk S) wo (ysub ms i (m + 1)) (sbk S).length) _ _ _ _ 1 ⟨⟨?_, by dsimp only; omega, by dsimp only; omega⟩, fun _ => ⟨?_, ?_, ?_, rn⟩⟩ (wR_up hw _ _ _ _) (if_pos ⟨?_, hb'⟩)
        · rw [y_up, if_pos rfl]
        · rw [y_up, if_pos rfl]
        · rw [y_up, if_pos rfl]
        · rw [y_up, if_pos rfl]
        · rw [hcc] at hy; exact hy.1
      · exact next q a b c e 1 hq hw (if_neg (fun x => hy ⟨by rw [hcc]; exact x.1, rfl⟩))
    · have hb' : ¬ (q.1 < 0 ∨ K < q.1 ∨ (K = q.1 ∧ N < q.2.1)) := by
        rw [hq.1.1] at hb
        by_cases x : 0 ≤ q.1
        · rw [(hq.2 x).1] at hb; exact hb
        · exact fun _ => hb (Or.inl (by omega))
      refine m_way_218 k a b c e i (m + 1) (by omega) _ _ _ _ _ _ _ _ (by split; exact Or.inr rfl; exact Or.inl rfl) (Or.inl rfl) Q (fun hy => by omega) (fun hy => ?_) (by omega)
      exact next q a b c e 0 hq hw (if_neg (fun x => hb' x.2))
set_option maxRecDepth 100000 in
theorem m_way_o (k : zKH h F J V P) (xX : rX F V ms) (g : gS S) (r : rM (F 35) S) (wo mf : Int) (mp : Nat) (hwo : zr wo ∧ wo < 16) (hmp : mp = 0 ∨ (0 ≤ mf ∧ mf + mp ≤ ms.length)) (hmp3 : mp ≤ 3) (Q : zQ) (hQ : ∀ a b c e, wR mp 0 ms.length (yDs (sco S) (swi S) (sbk S) ms wo mf mp) a b c e → Q none (hhM h a b c e)) : ∀ (u d : Nat) (a b c e : Nat → Int) (z5 z6 z7 z8 z9 z10 : zV), u + d = ms.length → wR mp u d (yD (yE (sbk S) ms mf mp) wo (ypm (sco S) (swi S) ms) (sco S) ms.length d) a b c e → Go 124 28 [vR 34, vI wo, vI mf, vI mp, vI ((u : Int) - 1), z5, z6, z7, z8, z9, z10] [] (hhM h a b c e) Q := by
  intro u
  have m12 := xX.2.2.1.2.1
  have v14 : V 14 = ms.length := xX.2.2.1.1
  have hm := xX.2.2.1.2.2
  induction u with
  | zero =>
    intro d a b c e z5 z6 z7 z8 z9 z10 hu hw
    obtain rfl : d = ms.length := by omega
    have c3 := hQ a b c e hw
    have t0 : ((0 : Nat) : Int) - 1 = -1 := rfl
    rw [t0]
    refine Go_on (fun _ => false) 400 ?_; simp only [Ge_s, eM_s, zct_0, zct_I, zct_P, zct_J, eX_iconst, eX_ldc2w, eX_iload, eX_lload, eX_aload, eX_istore, eX_lstore, eX_astore, eX_iinc, eX_iadd, eX_isub, eX_imul, eX_idiv, eX_irem, eX_iand, eX_land, eX_lor, eX_lshl, eX_lushr, eX_lcmp, eX_i2l, eX_l2i, eX_dup, eX_dup2, eX_ifCond, eX_ificmp, eX_goto, eX_ifnonnull, eX_tableswitch, eX_invokeinterface, eX_multianewarray, eX_getstatic, eX_iaload, eX_laload, eX_baload, eX_aaload, eX_iastore, eX_bastore, eX_lastore, eX_aastore, eX_arraylength, eX_new, eX_newarray, eX_anewarray, eX_invokevirtual, eX_invokestatic, eX_invokespecial, eX_pop, eX_invokedynamic, eX_ireturn, eX_freturn, eX_lreturn, eX_return, eI_s, eJ_s, eP_s, eSI_s, eSJ_s, eSP_s, eInc_s, eAdd_s, eSub_s, eMul_s, eDiv_s, eRem_s, eAnd_s, eLand_s, eLor_s, eLshl_s, eLushr_s, eLcmp_s, eI2l_s, eL2i_s, eDup_s, eDup2_s, eIf_s, eIc_s, eBr_eq, eBr_ne, eBr_lt, eBr_ge, eBr_gt, eBr_le, eNn_s, eNn_n, eG3_s, eG2_s, eGf_s, eP2_s, ePf_s, eAI2_s, eAZ2_s, eAJ2_s, eAQ2_s, eAI_s, eAZ_s, eAJ_s, eAQ_s, eXI2_s, eXZ2_s, eXJ2_s, eXQ2_s, eXI_s, eXZ_s, eXJ_s, eXQ_s, eL2_s, eLn_s, eNa_i, eNa_z, eNa_j, eNq_s, eK_s, eK_n, eR2_s, eRv_s, eRi_s, eCv_s, eCs_s, eCi_s, ePop_s, eMx_s, eMn_s, eCp_s, eCp2_i, eCp2_j, eJd_1, eJd_2, eJd_3, eRI_s, eRZ_s, eRJ_s, eRV_s, zsg_s, zsg_n, zsg_c, List.set_set, Option.map_some, ne_eq, not_false_eq_true, zfit_0, zfit_1, zfit_12, zkd, ↓reduceIte, zc1_I, zc1_P, zset1, zset2, zclr, List.getElem?_cons_zero, List.getElem?_cons_succ, List.set_cons_zero, List.set_cons_succ, List.length_cons, List.length_nil, List.take_succ_cons, List.take_zero, List.drop_succ_cons, List.drop_zero, List.reverse_cons, List.reverse_nil, List.nil_append, List.cons_append, Option.toList_some, Option.toList_none, Nat.reduceAdd, Nat.reduceSub, Nat.reduceLeDiff, Nat.reduceBEq, Nat.reduceEqDiff, Int.reduceToNat, Bool.or_false, Bool.false_or, Bool.or_true, Bool.true_or, Bool.false_eq_true, if_true, if_false, ite_true, ite_false, and_true, true_and, and_self, reduceCtorEq, Int.reduceLT, Int.reduceLE, Int.reduceNeg, Int.reduceAdd, Int.reduceSub, Int.reduceMul, Nat.le_refl, or_true, true_or, or_self, Int.reduceEq, za_124]
    ((try unfold zr); (try unfold zix); (repeat' first | exact trivial | assumption | (with_reducible rfl) | omega | (refine And.intro ?_ ?_)))
  | succ u ih =>
    intro d a b c e z5 z6 z7 z8 z9 z10 hu hw
    have k0 := kh_hhM k a b c e
    have k1 := kh_hhM k (va_up a u (-1)) b c e
    have s1 := hhM_43 (h := h) a b c e (va_up a u (-1))
    have g43 : (hhM h a b c e)[43]? = some (aI 13 a) := kh_43 k0
    have e0 : ((u + 1 : Nat) : Int) - 1 = u := by omega
    have e1 : ¬ (u : Int) < 0 := by omega
    have e2 : ((u : Int)).toNat = u := by omega
    have e3 : (ms.length : Int) - u = ((d + 1 : Nat) : Int) := by omega
    have hL := yD_len (yE (sbk S) ms mf mp) wo (ypm (sco S) (swi S) ms) (sco S) ms.length d
    have rr := yD_r (E := yE (sbk S) ms mf mp) (wo := wo) (pc := ypm (sco S) (swi S) ms) (co := sco S) (n := ms.length) (fun i => by
      have w := (ywd_ok hm (i : Int)).2
      rw [ywd_nat] at w
      have := ypc_r g.1.1 g.1.2.1 w
      unfold ypm
      omega) (by have := g.1.1; omega) d
    have eD : yD (yE (sbk S) ms mf mp) wo (ypm (sco S) (swi S) ms) (sco S) ms.length (d + 1) = yv (yE (sbk S) ms mf mp u) wo (ypm (sco S) (swi S) ms u) (sco S) (yD (yE (sbk S) ms mf mp) wo (ypm (sco S) (swi S) ms) (sco S) ms.length d) 3 :: yD (yE (sbk S) ms mf mp) wo (ypm (sco S) (swi S) ms) (sco S) ms.length d := by
      show yv (yE (sbk S) ms mf mp (ms.length - (d + 1))) wo (ypm (sco S) (swi S) ms (ms.length - (d + 1))) (sco S) _ 3 :: _ = _
      rw [show ms.length - (d + 1) = u by omega]
    have ih := ih (d + 1)
    rw [eD] at ih
    generalize yD (yE (sbk S) ms mf mp) wo (ypm (sco S) (swi S) ms) (sco S) ms.length d = L at *
    have fin : ∀ (M : Nat), M = (if 3 < L.length then 3 else L.length) → Go 124 65 [vR 34, vI wo, vI mf, vI mp, vI u, vI M, z6, z7, z8, z9, z10] [] (hhM h (va_up a u (-1)) b c e) Q := by
      intro M hM
      have hwu := (ywd_ok hm (u : Int)).2
      have hne := (hm _ (ygetD_mem (d := []) (show u < ms.length by omega))).1.1
      have hE : ∀ s, yE (sbk S) ms mf mp u s = if s = mp ∧ ysub ms u s = ysub ms mf.toNat s then 16 else yfind (sbk S) (ysub ms u s) 0 (sbk S).length := fun s => rfl
      have hC : ∀ s, ywC (sbk S) ms wo mf mp u s = true ↔ (yE (sbk S) ms mf mp u s ≠ -6 ∧ yE (sbk S) ms mf mp u s ≠ wo) := by
        intro s
        have x : ywC (sbk S) ms wo mf mp u s = true ↔ (yeo (sbk S) wo (ysub ms u s) (sbk S).length ≠ -6 ∨ (s = mp ∧ ysub ms u s = ysub ms mf.toNat s)) := decide_eq_true_iff
        rw [x, hE s, yeo_find g.2.2.2.2 wo (ysub ms u s)]
        by_cases c1 : s = mp ∧ ysub ms u s = ysub ms mf.toNat s
        · rw [if_pos c1]
          exact ⟨fun _ => ⟨by omega, by have := hwo.2; omega⟩, fun _ => Or.inr c1⟩
        · rw [if_neg c1]
          by_cases c2 : yfind (sbk S) (ysub ms u s) 0 (sbk S).length = wo
          · rw [if_pos c2]
            exact ⟨fun y => by rcases y with y | y; exact absurd rfl y; exact absurd y c1, fun y => absurd c2 y.2⟩
          · rw [if_neg c2]
            exact ⟨fun y => by rcases y with y | y; exact ⟨y, c2⟩; exact absurd y c1, fun y => Or.inl y.1⟩
      have hen : ∀ s, ywC (sbk S) ms wo mf mp u s = false → (fun s => yeo (sbk S) wo (ysub ms u s) (sbk S).length) s = -6 := by
        intro s hs
        have x : ywC (sbk S) ms wo mf mp u s = false ↔ ¬ (yeo (sbk S) wo (ysub ms u s) (sbk S).length ≠ -6 ∨ (s = mp ∧ ysub ms u s = ysub ms mf.toNat s)) := decide_eq_false_iff_not
        rw [x] at hs
        by_cases y : yeo (sbk S) wo (ysub ms u s) (sbk S).length = -6
        · exact y
        · exact absurd (Or.inl y) hs
      have co1 := g.1.1
      have wi2 := g.1.2.1
      have hk0 : ∀ t, ywc (ywC (sbk S) ms wo mf mp u) L t → 0 ≤ ywk (ywC (sbk S) ms wo mf mp u) (ypm (sco S) (swi S) ms u) (sco S) L t := by
        intro t _
        have := (rr (t - 1)).1.1
        have pp := ypc_ge (co := sco S) (wi := swi S) co1.1 wi2.1 hne
        unfold ywk ypm
        split <;> omega
      have key := ymf_yv (ywC (sbk S) ms wo mf mp u) (fun s => yeo (sbk S) wo (ysub ms u s) (sbk S).length) (yE (sbk S) ms mf mp u) wo (ypm (sco S) (swi S) ms u) (sco S) L hC hen (by omega) (ypc_ge co1.1 wi2.1 hne) hk0 M hM (-1, 0, 0, 0) (by dsimp only; omega)
      refine m_way_i k xX g r wo mf mp hwo.1 hmp hmp3 u d (by omega) L hL rr Q M (-1, 0, 0, 0) (va_up a u (-1)) b c e z6 z7 z8 z9 z10 (by split at hM <;> omega) (by split at hM <;> omega) ⟨⟨by rw [y_up, if_pos rfl], by dsimp only; omega, by dsimp only; omega⟩, fun x => by dsimp only at x; omega⟩ ?_ (fun a b c e z6 z7 z8 z9 z10 hq hw2 => ?_)
      · intro j hj
        have := hw j hj
        rw [y_up, if_neg (by omega)]
        exact this
      · generalize ymf (ywC (sbk S) ms wo mf mp u) (fun s => yeo (sbk S) wo (ysub ms u s) (sbk S).length) (ypm (sco S) (swi S) ms u) (sco S) L M (-1, 0, 0, 0) = q at *
        have yr := yv_r (E := yE (sbk S) ms mf mp u) (wo := wo) (pc := ypm (sco S) (swi S) ms u) (co := sco S) (L := L) (d := d) (by
          rw [ywd_nat] at hwu
          have := ypc_r g.1.1 g.1.2.1 hwu
          unfold ypm
          omega) (by omega) rr 3
        have c3 := ih a b c e (vI 0) z6 z7 z8 z9 z10 (by omega) (by
          intro j hj
          cases j with
          | zero =>
            have hq2 := hq.2 (by rw [key.1]; exact yr.1.1)
            refine ⟨⟨?_, ?_⟩, fun _ => ⟨?_, fun hmp0 => ?_⟩⟩
            · exact hq.1.1.trans key.1
            · exact hq2.1.trans key.2.1
            · exact hq2.2.1.trans (by rw [key.2.2.1]; rfl)
            · refine hq2.2.2.1.trans (key.2.2.2 fun s hs hCs => ?_)
              have x := (hC s).1 hCs
              have es : yE (sbk S) ms mf mp u s = yfind (sbk S) (ysub ms u s) 0 (sbk S).length := by rw [hE s, if_neg (fun y => by omega)]
              rw [es] at x ⊢
              show yeo (sbk S) wo (ysub ms u s) (sbk S).length = _
              rw [yeo_find g.2.2.2.2 wo (ysub ms u s), if_neg x.2]
          | succ j =>
            have := hw2 j (by omega)
            rw [show u + (j + 1) = u + 1 + j by omega]
            exact ⟨this.1, fun y => this.2 (by omega)⟩)
        have e9 : (u : Int) + -1 = (u : Int) - 1 := rfl
        refine Go_on (fun p => p == 28) 400 ?_; simp only [Ge_s, eM_s, zct_0, zct_I, zct_P, zct_J, eX_iconst, eX_ldc2w, eX_iload, eX_lload, eX_aload, eX_istore, eX_lstore, eX_astore, eX_iinc, eX_iadd, eX_isub, eX_imul, eX_idiv, eX_irem, eX_iand, eX_land, eX_lor, eX_lshl, eX_lushr, eX_lcmp, eX_i2l, eX_l2i, eX_dup, eX_dup2, eX_ifCond, eX_ificmp, eX_goto, eX_ifnonnull, eX_tableswitch, eX_invokeinterface, eX_multianewarray, eX_getstatic, eX_iaload, eX_laload, eX_baload, eX_aaload, eX_iastore, eX_bastore, eX_lastore, eX_aastore, eX_arraylength, eX_new, eX_newarray, eX_anewarray, eX_invokevirtual, eX_invokestatic, eX_invokespecial, eX_pop, eX_invokedynamic, eX_ireturn, eX_freturn, eX_lreturn, eX_return, eI_s, eJ_s, eP_s, eSI_s, eSJ_s, eSP_s, eInc_s, eAdd_s, eSub_s, eMul_s, eDiv_s, eRem_s, eAnd_s, eLand_s, eLor_s, eLshl_s, eLushr_s, eLcmp_s, eI2l_s, eL2i_s, eDup_s, eDup2_s, eIf_s, eIc_s, eBr_eq, eBr_ne, eBr_lt, eBr_ge, eBr_gt, eBr_le, eNn_s, eNn_n, eG3_s, eG2_s, eGf_s, eP2_s, ePf_s, eAI2_s, eAZ2_s, eAJ2_s, eAQ2_s, eAI_s, eAZ_s, eAJ_s, eAQ_s, eXI2_s, eXZ2_s, eXJ2_s, eXQ2_s, eXI_s, eXZ_s, eXJ_s, eXQ_s, eL2_s, eLn_s, eNa_i, eNa_z, eNa_j, eNq_s, eK_s, eK_n, eR2_s, eRv_s, eRi_s, eCv_s, eCs_s, eCi_s, ePop_s, eMx_s, eMn_s, eCp_s, eCp2_i, eCp2_j, eJd_1, eJd_2, eJd_3, eRI_s, eRZ_s, eRJ_s, eRV_s, zsg_s, zsg_n, zsg_c, List.set_set, Option.map_some, ne_eq, not_false_eq_true, zfit_0, zfit_1, zfit_12, zkd, ↓reduceIte, zc1_I, zc1_P, zset1, zset2, zclr, List.getElem?_cons_zero, List.getElem?_cons_succ, List.set_cons_zero, List.set_cons_succ, List.length_cons, List.length_nil, List.take_succ_cons, List.take_zero, List.drop_succ_cons, List.drop_zero, List.reverse_cons, List.reverse_nil, List.nil_append, List.cons_append, Option.toList_some, Option.toList_none, Nat.reduceAdd, Nat.reduceSub, Nat.reduceLeDiff, Nat.reduceBEq, Nat.reduceEqDiff, Int.reduceToNat, Bool.or_false, Bool.false_or, Bool.or_true, Bool.true_or, Bool.false_eq_true, if_true, if_false, ite_true, ite_false, and_true, true_and, and_self, reduceCtorEq, Int.reduceLT, Int.reduceLE, Int.reduceNeg, Int.reduceAdd, Int.reduceSub, Int.reduceMul, Nat.le_refl, or_true, true_or, or_self, Int.reduceEq, za_124, e9]
        ((try unfold zr); (try unfold zix); (repeat' first | exact trivial | assumption | (with_reducible rfl) | omega | (refine And.intro ?_ ?_)))
    rw [e0]
    by_cases c3 : (3 : Int) < ((d + 1 : Nat) : Int)
    · have c4 := fin 3 (by rw [if_pos (by omega)])
      refine Go_on (fun p => p == 65) 400 ?_; simp only [Ge_s, eM_s, zct_0, zct_I, zct_P, zct_J, eX_iconst, eX_ldc2w, eX_iload, eX_lload, eX_aload, eX_istore, eX_lstore, eX_astore, eX_iinc, eX_iadd, eX_isub, eX_imul, eX_idiv, eX_irem, eX_iand, eX_land, eX_lor, eX_lshl, eX_lushr, eX_lcmp, eX_i2l, eX_l2i, eX_dup, eX_dup2, eX_ifCond, eX_ificmp, eX_goto, eX_ifnonnull, eX_tableswitch, eX_invokeinterface, eX_multianewarray, eX_getstatic, eX_iaload, eX_laload, eX_baload, eX_aaload, eX_iastore, eX_bastore, eX_lastore, eX_aastore, eX_arraylength, eX_new, eX_newarray, eX_anewarray, eX_invokevirtual, eX_invokestatic, eX_invokespecial, eX_pop, eX_invokedynamic, eX_ireturn, eX_freturn, eX_lreturn, eX_return, eI_s, eJ_s, eP_s, eSI_s, eSJ_s, eSP_s, eInc_s, eAdd_s, eSub_s, eMul_s, eDiv_s, eRem_s, eAnd_s, eLand_s, eLor_s, eLshl_s, eLushr_s, eLcmp_s, eI2l_s, eL2i_s, eDup_s, eDup2_s, eIf_s, eIc_s, eBr_eq, eBr_ne, eBr_lt, eBr_ge, eBr_gt, eBr_le, eNn_s, eNn_n, eG3_s, eG2_s, eGf_s, eP2_s, ePf_s, eAI2_s, eAZ2_s, eAJ2_s, eAQ2_s, eAI_s, eAZ_s, eAJ_s, eAQ_s, eXI2_s, eXZ2_s, eXJ2_s, eXQ2_s, eXI_s, eXZ_s, eXJ_s, eXQ_s, eL2_s, eLn_s, eNa_i, eNa_z, eNa_j, eNq_s, eK_s, eK_n, eR2_s, eRv_s, eRi_s, eCv_s, eCs_s, eCi_s, ePop_s, eMx_s, eMn_s, eCp_s, eCp2_i, eCp2_j, eJd_1, eJd_2, eJd_3, eRI_s, eRZ_s, eRJ_s, eRV_s, zsg_s, zsg_n, zsg_c, List.set_set, Option.map_some, ne_eq, not_false_eq_true, zfit_0, zfit_1, zfit_12, zkd, ↓reduceIte, zc1_I, zc1_P, zset1, zset2, zclr, List.getElem?_cons_zero, List.getElem?_cons_succ, List.set_cons_zero, List.set_cons_succ, List.length_cons, List.length_nil, List.take_succ_cons, List.take_zero, List.drop_succ_cons, List.drop_zero, List.reverse_cons, List.reverse_nil, List.nil_append, List.cons_append, Option.toList_some, Option.toList_none, Nat.reduceAdd, Nat.reduceSub, Nat.reduceLeDiff, Nat.reduceBEq, Nat.reduceEqDiff, Int.reduceToNat, Bool.or_false, Bool.false_or, Bool.or_true, Bool.true_or, Bool.false_eq_true, if_true, if_false, ite_true, ite_false, and_true, true_and, and_self, reduceCtorEq, Int.reduceLT, Int.reduceLE, Int.reduceNeg, Int.reduceAdd, Int.reduceSub, Int.reduceMul, Nat.le_refl, or_true, true_or, or_self, Int.reduceEq, za_124, kh_34 k0, kh_34 k1, g43, s1, v14, e1, e2, e3, c3]
      ((try unfold zr); (try unfold zix); (repeat' first | exact trivial | assumption | (with_reducible rfl) | omega | (refine And.intro ?_ ?_)))
    · have c4 := fin (d + 1) (by rw [if_neg (by omega)]; omega)
      refine Go_on (fun p => p == 65) 400 ?_; simp only [Ge_s, eM_s, zct_0, zct_I, zct_P, zct_J, eX_iconst, eX_ldc2w, eX_iload, eX_lload, eX_aload, eX_istore, eX_lstore, eX_astore, eX_iinc, eX_iadd, eX_isub, eX_imul, eX_idiv, eX_irem, eX_iand, eX_land, eX_lor, eX_lshl, eX_lushr, eX_lcmp, eX_i2l, eX_l2i, eX_dup, eX_dup2, eX_ifCond, eX_ificmp, eX_goto, eX_ifnonnull, eX_tableswitch, eX_invokeinterface, eX_multianewarray, eX_getstatic, eX_iaload, eX_laload, eX_baload, eX_aaload, eX_iastore, eX_bastore, eX_lastore, eX_aastore, eX_arraylength, eX_new, eX_newarray, eX_anewarray, eX_invokevirtual, eX_invokestatic, eX_invokespecial, eX_pop, eX_invokedynamic, eX_ireturn, eX_freturn, eX_lreturn, eX_return, eI_s, eJ_s, eP_s, eSI_s, eSJ_s, eSP_s, eInc_s, eAdd_s, eSub_s, eMul_s, eDiv_s, eRem_s, eAnd_s, eLand_s, eLor_s, eLshl_s, eLushr_s, eLcmp_s, eI2l_s, eL2i_s, eDup_s, eDup2_s, eIf_s, eIc_s, eBr_eq, eBr_ne, eBr_lt, eBr_ge, eBr_gt, eBr_le, eNn_s, eNn_n, eG3_s, eG2_s, eGf_s, eP2_s, ePf_s, eAI2_s, eAZ2_s, eAJ2_s, eAQ2_s, eAI_s, eAZ_s, eAJ_s, eAQ_s, eXI2_s, eXZ2_s, eXJ2_s, eXQ2_s, eXI_s, eXZ_s, eXJ_s, eXQ_s, eL2_s, eLn_s, eNa_i, eNa_z, eNa_j, eNq_s, eK_s, eK_n, eR2_s, eRv_s, eRi_s, eCv_s, eCs_s, eCi_s, ePop_s, eMx_s, eMn_s, eCp_s, eCp2_i, eCp2_j, eJd_1, eJd_2, eJd_3, eRI_s, eRZ_s, eRJ_s, eRV_s, zsg_s, zsg_n, zsg_c, List.set_set, Option.map_some, ne_eq, not_false_eq_true, zfit_0, zfit_1, zfit_12, zkd, ↓reduceIte, zc1_I, zc1_P, zset1, zset2, zclr, List.getElem?_cons_zero, List.getElem?_cons_succ, List.set_cons_zero, List.set_cons_succ, List.length_cons, List.length_nil, List.take_succ_cons, List.take_zero, List.drop_succ_cons, List.drop_zero, List.reverse_cons, List.reverse_nil, List.nil_append, List.cons_append, Option.toList_some, Option.toList_none, Nat.reduceAdd, Nat.reduceSub, Nat.reduceLeDiff, Nat.reduceBEq, Nat.reduceEqDiff, Int.reduceToNat, Bool.or_false, Bool.false_or, Bool.or_true, Bool.true_or, Bool.false_eq_true, if_true, if_false, ite_true, ite_false, and_true, true_and, and_self, reduceCtorEq, Int.reduceLT, Int.reduceLE, Int.reduceNeg, Int.reduceAdd, Int.reduceSub, Int.reduceMul, Nat.le_refl, or_true, true_or, or_self, Int.reduceEq, za_124, kh_34 k0, kh_34 k1, g43, s1, v14, e1, e2, e3, c3]
      ((try unfold zr); (try unfold zix); (repeat' first | exact trivial | assumption | (with_reducible rfl) | omega | (refine And.intro ?_ ?_)))
set_option maxRecDepth 100000 in
theorem m_findWay (k : zKH h F J V P) (xX : rX F V ms) (g : gS S) (r : rM (F 35) S) (wo mf : Int) (mp : Nat) (hwo : zr wo ∧ wo < 16) (hmp : mp = 0 ∨ (0 ≤ mf ∧ mf + mp ≤ ms.length)) (hmp3 : mp ≤ 3) (Q : zQ) (hQ : ∀ a b c e, wR mp 0 ms.length (yDs (sco S) (swi S) (sbk S) ms wo mf mp) a b c e → Q none (hhM h a b c e)) : Ca 124 [vR 34, vI wo, vI mf, vI mp] h Q := by
  have m12 := xX.2.2.1.2.1
  have v14 : V 14 = ms.length := xX.2.2.1.1
  have e2 : ((ms.length : Int)).toNat = ms.length := by omega
  have c3 := m_way_o k xX g r wo mf mp hwo hmp hmp3 Q hQ ms.length 0 (va_up (F 43) ms.length 0) (va_up (F 44) ms.length 0) (F 45) (F 46) vU vU vU vU vU vU (by omega) (by
    intro j hj
    obtain rfl : j = 0 := by omega
    refine ⟨?_, fun x => absurd x (by omega)⟩
    rw [y_up, y_up, if_pos (by omega), if_pos (by omega)]
    exact ⟨rfl, rfl⟩)
  have k1 := kh_hhM k (va_up (F 43) ms.length 0) (F 44) (F 45) (F 46)
  have k2 := kh_hhM k (va_up (F 43) ms.length 0) (va_up (F 44) ms.length 0) (F 45) (F 46)
  have s1 := hhM_43 (h := h) (F 43) (F 44) (F 45) (F 46) (va_up (F 43) ms.length 0)
  rw [hhM_id k] at s1
  have s2 := hhM_44 (h := h) (va_up (F 43) ms.length 0) (F 44) (F 45) (F 46) (va_up (F 44) ms.length 0)
  have g44 : (hhM h (va_up (F 43) ms.length 0) (F 44) (F 45) (F 46))[44]? = some (aI 13 (F 44)) := by have x := kh_44 k1; exact x
  rw [ce_124, ← Ge_eq (fun p => p == 28) 124 _ 400]; simp only [Ge_s, eM_s, zct_0, zct_I, zct_P, zct_J, eX_iconst, eX_ldc2w, eX_iload, eX_lload, eX_aload, eX_istore, eX_lstore, eX_astore, eX_iinc, eX_iadd, eX_isub, eX_imul, eX_idiv, eX_irem, eX_iand, eX_land, eX_lor, eX_lshl, eX_lushr, eX_lcmp, eX_i2l, eX_l2i, eX_dup, eX_dup2, eX_ifCond, eX_ificmp, eX_goto, eX_ifnonnull, eX_tableswitch, eX_invokeinterface, eX_multianewarray, eX_getstatic, eX_iaload, eX_laload, eX_baload, eX_aaload, eX_iastore, eX_bastore, eX_lastore, eX_aastore, eX_arraylength, eX_new, eX_newarray, eX_anewarray, eX_invokevirtual, eX_invokestatic, eX_invokespecial, eX_pop, eX_invokedynamic, eX_ireturn, eX_freturn, eX_lreturn, eX_return, eI_s, eJ_s, eP_s, eSI_s, eSJ_s, eSP_s, eInc_s, eAdd_s, eSub_s, eMul_s, eDiv_s, eRem_s, eAnd_s, eLand_s, eLor_s, eLshl_s, eLushr_s, eLcmp_s, eI2l_s, eL2i_s, eDup_s, eDup2_s, eIf_s, eIc_s, eBr_eq, eBr_ne, eBr_lt, eBr_ge, eBr_gt, eBr_le, eNn_s, eNn_n, eG3_s, eG2_s, eGf_s, eP2_s, ePf_s, eAI2_s, eAZ2_s, eAJ2_s, eAQ2_s, eAI_s, eAZ_s, eAJ_s, eAQ_s, eXI2_s, eXZ2_s, eXJ2_s, eXQ2_s, eXI_s, eXZ_s, eXJ_s, eXQ_s, eL2_s, eLn_s, eNa_i, eNa_z, eNa_j, eNq_s, eK_s, eK_n, eR2_s, eRv_s, eRi_s, eCv_s, eCs_s, eCi_s, ePop_s, eMx_s, eMn_s, eCp_s, eCp2_i, eCp2_j, eJd_1, eJd_2, eJd_3, eRI_s, eRZ_s, eRJ_s, eRV_s, zsg_s, zsg_n, zsg_c, List.set_set, Option.map_some, ne_eq, not_false_eq_true, zfit_0, zfit_1, zfit_12, zkd, ↓reduceIte, zc1_I, zc1_P, zset1, zset2, zclr, List.getElem?_cons_zero, List.getElem?_cons_succ, List.set_cons_zero, List.set_cons_succ, List.length_cons, List.length_nil, List.take_succ_cons, List.take_zero, List.drop_succ_cons, List.drop_zero, List.reverse_cons, List.reverse_nil, List.nil_append, List.cons_append, Option.toList_some, Option.toList_none, Nat.reduceAdd, Nat.reduceSub, Nat.reduceLeDiff, Nat.reduceBEq, Nat.reduceEqDiff, Int.reduceToNat, Bool.or_false, Bool.false_or, Bool.or_true, Bool.true_or, Bool.false_eq_true, if_true, if_false, ite_true, ite_false, and_true, true_and, and_self, reduceCtorEq, Int.reduceLT, Int.reduceLE, Int.reduceNeg, Int.reduceAdd, Int.reduceSub, Int.reduceMul, Nat.le_refl, or_true, true_or, or_self, Int.reduceEq, za_124, kh_34 k, kh_43 k, v14, e2, s1, kh_34 k1, g44, s2, kh_34 k2]
  ((try unfold zr); (try unfold zix); (repeat' first | exact trivial | assumption | (with_reducible rfl) | omega | (refine And.intro ?_ ?_)))
end
