/-! The model: drop, undo, save, restore, phraseSign, put -/
set_option maxRecDepth 100000 in
theorem ysg_text : ∀ (p : yF), yokF p → ∀ r : Int, ysg p r = if 0 ≤ r ∧ r < (ytx p).length then (ytx p).getD r.toNat 0 else -1 := by
  intro p
  induction p with
  | nil => intro _ r; rw [if_neg (by show ¬ (0 ≤ r ∧ r < ((0 : Nat) : Int)); omega)]; rfl
  | cons w ps ih =>
    intro hp r
    have hps : yokF ps := fun u hu => hp u (List.mem_cons_of_mem _ hu)
    have ih := ih hps
    have e : ysg (w :: ps) r = if r < 0 then -1 else if r < w.length then 103 + ltr w r.toNat else if r = w.length ∧ ps ≠ [] then 47 else ysg ps (r - (w.length + 1)) := rfl
    have el : (ytx (w :: ps)).length = w.length + (ytl ps).length := by rw [ytx_c, List.length_append, List.length_map]
    have et : (ytl ps).length = if ps = [] then 0 else 1 + (ytx ps).length := by
      unfold ytl
      split
      · rfl
      · rw [List.length_cons]; omega
    rw [e]
    by_cases c0 : r < 0
    · rw [if_pos c0, if_neg (by omega)]
    · rw [if_neg c0]
      by_cases c1 : r < w.length
      · rw [if_pos c1, if_pos (by omega), ytx_c, List.getD_eq_getElem?_getD, List.getElem?_append_left (by rw [List.length_map]; omega), List.getElem?_map]
        unfold ltr
        rw [List.getD_eq_getElem?_getD, List.getElem?_eq_getElem (by omega)]
        show (103 : Int) + (w[r.toNat] : Nat) = (w[r.toNat] : Nat) + 103
        omega
      · rw [if_neg c1]
        by_cases c2 : ps = []
        · rw [if_neg (fun x => x.2 c2), if_neg (by rw [if_pos c2] at et; omega), c2]
          rfl
        · rw [if_neg c2] at et
          by_cases c3 : r = w.length
          · rw [if_pos ⟨c3, c2⟩, if_pos (by omega), ytx_c, List.getD_eq_getElem?_getD, List.getElem?_append_right (by rw [List.length_map]; omega), List.length_map, show r.toNat - w.length = 0 by omega]
            unfold ytl
            rw [if_neg c2]
            rfl
          · rw [if_neg (fun x => c3 x.1), ih]
            by_cases c4 : 0 ≤ r - (w.length + 1) ∧ r - (w.length + 1) < (ytx ps).length
            · rw [if_pos c4, if_pos (by omega), ytx_c, List.getD_eq_getElem?_getD, List.getD_eq_getElem?_getD, List.getElem?_append_right (by rw [List.length_map]; omega), List.length_map]
              unfold ytl
              rw [if_neg c2, show r.toNat - w.length = (r - (w.length + 1)).toNat + 1 by omega, List.getElem?_cons_succ]
            · rw [if_neg c4, if_neg (by omega)]
section
variable {h : zH} {F F2 : Nat → Nat → Int} {J : Nat → Nat → Nat} {V V2 : Nat → Int} {P : Nat → Nat → Option Nat} {A : yA} {pd : List Int} {ms : yF} {S : yS} {f : Nat → Int}
set_option maxRecDepth 100000 in
theorem M_phraseSign (k : zKH h F J V P) (c : MR F V A) (g : gAl A) (e w : Int) (he : zr e) (hw : zr w) : Mu h F J V P 147 [vR 34, vI e, vI w] A (if 0 ≤ e ∧ e < (sbk (aS A)).length then ysg (bph (sbk (aS A)) e.toNat) w else -1) := by
  have b1 := m_isEntry (h := h) k (sbk (aS A)).length ⟨c.1.1.2.1, g.1.2.1.1⟩ e he
  have g16 := g.1.2.1.1
  refine Mu_same k c ?_
  by_cases x : 0 ≤ e ∧ e < (sbk (aS A)).length
  · rw [if_pos x]
    rw [if_pos x] at b1
    obtain ⟨n, rfl⟩ : ∃ n : Nat, e = n := ⟨e.toNat, by omega⟩
    have e0 : ((n : Nat) : Int).toNat = n := by omega
    have gb := g.1.2.1.2 n (by omega)
    have l38 := ytx_38 gb.2.1 gb.2.2.2
    rw [e0, ysg_text _ gb.2.1]
    have b2 := m_entryPart (h := h) k n 1 (by omega)
    rw [(c.1.2.2.1 n (by omega)).2.1] at b2
    have t1 : ((1 : Nat) : Int) = 1 := rfl
    rw [t1] at b2
    have b3 := m_within (h := h) (v := w) (l := 0) (g := ((ytx (bph (sbk (aS A)) n)).length : Int) - 1) hw (by unfold zr; omega) (by unfold zr; omega)
    by_cases y : 0 ≤ w ∧ w < (ytx (bph (sbk (aS A)) n)).length
    · rw [if_pos y]
      rw [if_pos (by omega)] at b3
      obtain ⟨j, rfl⟩ : ∃ j : Nat, w = j := ⟨w.toNat, by omega⟩
      have e1 : ((j : Nat) : Int).toNat = j := by omega
      rw [e1]
      have b4 := m_entryPart (h := h) k n (2 + j) (by omega)
      have t2 : ((2 + j : Nat) : Int) = 2 + j := by omega
      rw [(c.1.2.2.1 n (by omega)).2.2 j (by omega), t2] at b4
      rw [ce_147, ← Ge_eq (fun _ => false) 147 _ 400]; simp only [Ge_s, eM_s, zct_0, zct_I, zct_P, zct_J, eX_iconst, eX_ldc2w, eX_iload, eX_lload, eX_aload, eX_istore, eX_lstore, eX_astore, eX_iinc, eX_iadd, eX_isub, eX_imul, eX_idiv, eX_irem, eX_iand, eX_land, eX_lor, eX_lshl, eX_lushr, eX_lcmp, eX_i2l, eX_l2i, eX_dup, eX_dup2, eX_ifCond, eX_ificmp, eX_goto, eX_ifnonnull, eX_tableswitch, eX_invokeinterface, eX_multianewarray, eX_getstatic, eX_iaload, eX_laload, eX_baload, eX_aaload, eX_iastore, eX_bastore, eX_lastore, eX_aastore, eX_arraylength, eX_new, eX_newarray, eX_anewarray, eX_invokevirtual, eX_invokestatic, eX_invokespecial, eX_pop, eX_invokedynamic, eX_ireturn, eX_freturn, eX_lreturn, eX_return, eI_s, eJ_s, eP_s, eSI_s, eSJ_s, eSP_s, eInc_s, eAdd_s, eSub_s, eMul_s, eDiv_s, eRem_s, eAnd_s, eLand_s, eLor_s, eLshl_s, eLushr_s, eLcmp_s, eI2l_s, eL2i_s, eDup_s, eDup2_s, eIf_s, eIc_s, eBr_eq, eBr_ne, eBr_lt, eBr_ge, eBr_gt, eBr_le, eNn_s, eNn_n, eG3_s, eG2_s, eGf_s, eP2_s, ePf_s, eAI2_s, eAZ2_s, eAJ2_s, eAQ2_s, eAI_s, eAZ_s, eAJ_s, eAQ_s, eXI2_s, eXZ2_s, eXJ2_s, eXQ2_s, eXI_s, eXZ_s, eXJ_s, eXQ_s, eL2_s, eLn_s, eNa_i, eNa_z, eNa_j, eNq_s, eK_s, eK_n, eR2_s, eRv_s, eRi_s, eCv_s, eCs_s, eCi_s, ePop_s, eMx_s, eMn_s, eCp_s, eCp2_i, eCp2_j, eJd_1, eJd_2, eJd_3, eRI_s, eRZ_s, eRJ_s, eRV_s, zsg_s, zsg_n, zsg_c, List.set_set, Option.map_some, ne_eq, not_false_eq_true, zfit_0, zfit_1, zfit_12, zkd, ↓reduceIte, zc1_I, zc1_P, zset1, zset2, zclr, List.getElem?_cons_zero, List.getElem?_cons_succ, List.set_cons_zero, List.set_cons_succ, List.length_cons, List.length_nil, List.take_succ_cons, List.take_zero, List.drop_succ_cons, List.drop_zero, List.reverse_cons, List.reverse_nil, List.nil_append, List.cons_append, Option.toList_some, Option.toList_none, Nat.reduceAdd, Nat.reduceSub, Nat.reduceLeDiff, Nat.reduceBEq, Nat.reduceEqDiff, Int.reduceToNat, Bool.or_false, Bool.false_or, Bool.or_true, Bool.true_or, Bool.false_eq_true, if_true, if_false, ite_true, ite_false, and_true, true_and, and_self, reduceCtorEq, Int.reduceLT, Int.reduceLE, Int.reduceNeg, Int.reduceAdd, Int.reduceSub, Int.reduceMul, Nat.le_refl, or_true, true_or, or_self, Int.reduceEq, za_147, zf_113, zf_114, zf_104, kh_34 k, b1, b2, b3, b4]
      ((try unfold zr); (try unfold zix); (repeat' first | exact trivial | assumption | (with_reducible rfl) | omega | (refine And.intro ?_ ?_)))
    · rw [if_neg y]
      rw [if_neg (by omega)] at b3
      rw [ce_147, ← Ge_eq (fun _ => false) 147 _ 400]; simp only [Ge_s, eM_s, zct_0, zct_I, zct_P, zct_J, eX_iconst, eX_ldc2w, eX_iload, eX_lload, eX_aload, eX_istore, eX_lstore, eX_astore, eX_iinc, eX_iadd, eX_isub, eX_imul, eX_idiv, eX_irem, eX_iand, eX_land, eX_lor, eX_lshl, eX_lushr, eX_lcmp, eX_i2l, eX_l2i, eX_dup, eX_dup2, eX_ifCond, eX_ificmp, eX_goto, eX_ifnonnull, eX_tableswitch, eX_invokeinterface, eX_multianewarray, eX_getstatic, eX_iaload, eX_laload, eX_baload, eX_aaload, eX_iastore, eX_bastore, eX_lastore, eX_aastore, eX_arraylength, eX_new, eX_newarray, eX_anewarray, eX_invokevirtual, eX_invokestatic, eX_invokespecial, eX_pop, eX_invokedynamic, eX_ireturn, eX_freturn, eX_lreturn, eX_return, eI_s, eJ_s, eP_s, eSI_s, eSJ_s, eSP_s, eInc_s, eAdd_s, eSub_s, eMul_s, eDiv_s, eRem_s, eAnd_s, eLand_s, eLor_s, eLshl_s, eLushr_s, eLcmp_s, eI2l_s, eL2i_s, eDup_s, eDup2_s, eIf_s, eIc_s, eBr_eq, eBr_ne, eBr_lt, eBr_ge, eBr_gt, eBr_le, eNn_s, eNn_n, eG3_s, eG2_s, eGf_s, eP2_s, ePf_s, eAI2_s, eAZ2_s, eAJ2_s, eAQ2_s, eAI_s, eAZ_s, eAJ_s, eAQ_s, eXI2_s, eXZ2_s, eXJ2_s, eXQ2_s, eXI_s, eXZ_s, eXJ_s, eXQ_s, eL2_s, eLn_s, eNa_i, eNa_z, eNa_j, eNq_s, eK_s, eK_n, eR2_s, eRv_s, eRi_s, eCv_s, eCs_s, eCi_s, ePop_s, eMx_s, eMn_s, eCp_s, eCp2_i, eCp2_j, eJd_1, eJd_2, eJd_3, eRI_s, eRZ_s, eRJ_s, eRV_s, zsg_s, zsg_n, zsg_c, List.set_set, Option.map_some, ne_eq, not_false_eq_true, zfit_0, zfit_1, zfit_12, zkd, ↓reduceIte, zc1_I, zc1_P, zset1, zset2, zclr, List.getElem?_cons_zero, List.getElem?_cons_succ, List.set_cons_zero, List.set_cons_succ, List.length_cons, List.length_nil, List.take_succ_cons, List.take_zero, List.drop_succ_cons, List.drop_zero, List.reverse_cons, List.reverse_nil, List.nil_append, List.cons_append, Option.toList_some, Option.toList_none, Nat.reduceAdd, Nat.reduceSub, Nat.reduceLeDiff, Nat.reduceBEq, Nat.reduceEqDiff, Int.reduceToNat, Bool.or_false, Bool.false_or, Bool.or_true, Bool.true_or, Bool.false_eq_true, if_true, if_false, ite_true, ite_false, and_true, true_and, and_self, reduceCtorEq, Int.reduceLT, Int.reduceLE, Int.reduceNeg, Int.reduceAdd, Int.reduceSub, Int.reduceMul, Nat.le_refl, or_true, true_or, or_self, Int.reduceEq, za_147, zf_113, zf_114, zf_104, kh_34 k, b1, b2, b3]
      ((try unfold zr); (try unfold zix); (repeat' first | exact trivial | assumption | (with_reducible rfl) | omega | (refine And.intro ?_ ?_)))
  · rw [if_neg x]
    rw [if_neg x] at b1
    rw [ce_147, ← Ge_eq (fun _ => false) 147 _ 400]; simp only [Ge_s, eM_s, zct_0, zct_I, zct_P, zct_J, eX_iconst, eX_ldc2w, eX_iload, eX_lload, eX_aload, eX_istore, eX_lstore, eX_astore, eX_iinc, eX_iadd, eX_isub, eX_imul, eX_idiv, eX_irem, eX_iand, eX_land, eX_lor, eX_lshl, eX_lushr, eX_lcmp, eX_i2l, eX_l2i, eX_dup, eX_dup2, eX_ifCond, eX_ificmp, eX_goto, eX_ifnonnull, eX_tableswitch, eX_invokeinterface, eX_multianewarray, eX_getstatic, eX_iaload, eX_laload, eX_baload, eX_aaload, eX_iastore, eX_bastore, eX_lastore, eX_aastore, eX_arraylength, eX_new, eX_newarray, eX_anewarray, eX_invokevirtual, eX_invokestatic, eX_invokespecial, eX_pop, eX_invokedynamic, eX_ireturn, eX_freturn, eX_lreturn, eX_return, eI_s, eJ_s, eP_s, eSI_s, eSJ_s, eSP_s, eInc_s, eAdd_s, eSub_s, eMul_s, eDiv_s, eRem_s, eAnd_s, eLand_s, eLor_s, eLshl_s, eLushr_s, eLcmp_s, eI2l_s, eL2i_s, eDup_s, eDup2_s, eIf_s, eIc_s, eBr_eq, eBr_ne, eBr_lt, eBr_ge, eBr_gt, eBr_le, eNn_s, eNn_n, eG3_s, eG2_s, eGf_s, eP2_s, ePf_s, eAI2_s, eAZ2_s, eAJ2_s, eAQ2_s, eAI_s, eAZ_s, eAJ_s, eAQ_s, eXI2_s, eXZ2_s, eXJ2_s, eXQ2_s, eXI_s, eXZ_s, eXJ_s, eXQ_s, eL2_s, eLn_s, eNa_i, eNa_z, eNa_j, eNq_s, eK_s, eK_n, eR2_s, eRv_s, eRi_s, eCv_s, eCs_s, eCi_s, ePop_s, eMx_s, eMn_s, eCp_s, eCp2_i, eCp2_j, eJd_1, eJd_2, eJd_3, eRI_s, eRZ_s, eRJ_s, eRV_s, zsg_s, zsg_n, zsg_c, List.set_set, Option.map_some, ne_eq, not_false_eq_true, zfit_0, zfit_1, zfit_12, zkd, ↓reduceIte, zc1_I, zc1_P, zset1, zset2, zclr, List.getElem?_cons_zero, List.getElem?_cons_succ, List.set_cons_zero, List.set_cons_succ, List.length_cons, List.length_nil, List.take_succ_cons, List.take_zero, List.drop_succ_cons, List.drop_zero, List.reverse_cons, List.reverse_nil, List.nil_append, List.cons_append, Option.toList_some, Option.toList_none, Nat.reduceAdd, Nat.reduceSub, Nat.reduceLeDiff, Nat.reduceBEq, Nat.reduceEqDiff, Int.reduceToNat, Bool.or_false, Bool.false_or, Bool.or_true, Bool.true_or, Bool.false_eq_true, if_true, if_false, ite_true, ite_false, and_true, true_and, and_self, reduceCtorEq, Int.reduceLT, Int.reduceLE, Int.reduceNeg, Int.reduceAdd, Int.reduceSub, Int.reduceMul, Nat.le_refl, or_true, true_or, or_self, Int.reduceEq, za_147, zf_113, kh_34 k, b1]
    ((try unfold zr); (try unfold zix); (repeat' first | exact trivial | assumption | (with_reducible rfl) | omega | (refine And.intro ?_ ?_)))
set_option maxRecDepth 100000 in
theorem rM_drop (r : rM f S) (g : gS S) (e : Nat) (he : e < (sbk S).length) (f2 : Nat → Int) (h3 : f2 3 = ((sbk S).length : Int) - 1) (hf : ∀ t, t ≠ 3 → f2 t = if 87 + 40 * e ≤ t ∧ t < 87 + 40 * ((sbk S).length - 1) then f (t + 40) else f t) : rM f2 (S.1, bdr (sbk S) e, S.2.2) := by
  obtain ⟨⟨⟨r0, r1, r2⟩, r3, r4, r5, r6, r7⟩, rt, rb, rw⟩ := r
  have g16 := g.2.1.1
  have bl := bdr_len (sbk S) e he
  have lo : ∀ t, t ≠ 3 → t < 87 → f2 t = f t := fun t h1 h2 => by rw [hf t h1, if_neg (by omega)]
  have hi' : ∀ t, 727 ≤ t → f2 t = f t := fun t h1 => by rw [hf t (by omega), if_neg (by omega)]
  refine ⟨⟨⟨(lo _ (by omega) (by omega)).trans r0, (lo _ (by omega) (by omega)).trans r1, (lo _ (by omega) (by omega)).trans r2⟩, ?_, (lo _ (by omega) (by omega)).trans r4, (lo _ (by omega) (by omega)).trans r5, (lo _ (by omega) (by omega)).trans r6, r7⟩, fun k hk => ?_, fun i hi => ?_, fun w hw => ?_⟩
  · show f2 3 = ((bdr (sbk S) e).length : Int)
    rw [h3, bl]; omega
  · have hk : k < (ytx (sms S)).length := hk
    exact (lo _ (by omega) (by omega)).trans (rt k hk)
  · have hi : i < (bdr (sbk S) e).length := hi
    rw [bl] at hi
    have y := bdr_at (sbk S) e i
    show _ = ((bcd (bdr (sbk S) e) i : Nat) : Int) ∧ _ = ((ytx (bph (bdr (sbk S) e) i)).length : Int) ∧ ∀ k, k < (ytx (bph (bdr (sbk S) e) i)).length → _ = (ytx (bph (bdr (sbk S) e) i)).getD k 0
    rw [y.1, y.2]
    by_cases z : i < e
    · rw [if_pos z]
      have q := rb i (by omega)
      have l38 := ytx_38 (g.2.1.2 i (by omega)).2.1 (g.2.1.2 i (by omega)).2.2.2
      refine ⟨?_, ?_, fun k hk => ?_⟩
      · rw [hf _ (by omega), if_neg (by omega)]; exact q.1
      · rw [hf _ (by omega), if_neg (by omega)]; exact q.2.1
      · rw [hf _ (by omega), if_neg (by omega)]; exact q.2.2 k hk
    · rw [if_neg z]
      have q := rb (i + 1) (by omega)
      have l38 := ytx_38 (g.2.1.2 (i + 1) (by omega)).2.1 (g.2.1.2 (i + 1) (by omega)).2.2.2
      refine ⟨?_, ?_, fun k hk => ?_⟩
      · rw [hf _ (by omega), if_pos (by omega), show 87 + 40 * i + 0 + 40 = 87 + 40 * (i + 1) + 0 by omega]; exact q.1
      · rw [hf _ (by omega), if_pos (by omega), show 87 + 40 * i + 1 + 40 = 87 + 40 * (i + 1) + 1 by omega]; exact q.2.1
      · rw [hf _ (by omega), if_pos (by omega), show 87 + 40 * i + (2 + k) + 40 = 87 + 40 * (i + 1) + (2 + k) by omega]; exact q.2.2 k hk
  · have hw : w < (ssn S).length := hw
    have q := rw w hw
    exact ⟨⟨(hi' _ (by omega)).trans q.1.1, (hi' _ (by omega)).trans q.1.2.1, (hi' _ (by omega)).trans q.1.2.2.1, (hi' _ (by omega)).trans q.1.2.2.2.1, (hi' _ (by omega)).trans q.1.2.2.2.2⟩, fun j hj => ⟨(hi' _ (by omega)).trans (q.2 j hj).1, (hi' _ (by omega)).trans (q.2 j hj).2⟩⟩
set_option maxRecDepth 100000 in
theorem m_drop_l (k : zKH h F J V P) (n e : Nat) (hn : F 35 3 = n ∧ n ≤ 16 ∧ e < n) (Q : zQ) (hQ : ∀ f : Nat → Int, f 3 = n → (∀ t, t ≠ 3 → f t = if 87 + 40 * e ≤ t ∧ t < 87 + 40 * (n - 1) then F 35 (t + 40) else F 35 t) → ∀ x, Go 138 61 [vR 34, vI e, x] [] (h.set 35 (aI 1099 f)) Q) : ∀ (d t : Nat) (f : Nat → Int), t + d = 87 + 40 * (n - 1) → 87 + 40 * e ≤ t → (∀ u, f u = if 87 + 40 * e ≤ u ∧ u < t then F 35 (u + 40) else F 35 u) → Go 138 22 [vR 34, vI e, vI t] [] (h.set 35 (aI 1099 f)) Q := by
  intro d
  have e9 : (87 : Int) + 40 * ((n : Int) - 1) = ((87 + 40 * (n - 1) : Nat) : Int) := by omega
  induction d with
  | zero =>
    intro t f ht h1 hf
    have hf3 : f 3 = n := by rw [hf, if_neg (by omega)]; exact hn.1
    have c3 := hQ f hf3 (fun u hu => by rw [hf, show t = 87 + 40 * (n - 1) by omega]) (vI t)
    have k1 := ks_35 k f
    have g35 : (h.set 35 (aI 1099 f))[35]? = some (aI 1099 f) := kh_35 k1
    have e1 : ¬ (t : Int) < ((87 + 40 * (n - 1) : Nat) : Int) := by omega
    refine Go_on (fun p => p == 61) 400 ?_; simp only [Ge_s, eM_s, zct_0, zct_I, zct_P, zct_J, eX_iconst, eX_ldc2w, eX_iload, eX_lload, eX_aload, eX_istore, eX_lstore, eX_astore, eX_iinc, eX_iadd, eX_isub, eX_imul, eX_idiv, eX_irem, eX_iand, eX_land, eX_lor, eX_lshl, eX_lushr, eX_lcmp, eX_i2l, eX_l2i, eX_dup, eX_dup2, eX_ifCond, eX_ificmp, eX_goto, eX_ifnonnull, eX_tableswitch, eX_invokeinterface, eX_multianewarray, eX_getstatic, eX_iaload, eX_laload, eX_baload, eX_aaload, eX_iastore, eX_bastore, eX_lastore, eX_aastore, eX_arraylength, eX_new, eX_newarray, eX_anewarray, eX_invokevirtual, eX_invokestatic, eX_invokespecial, eX_pop, eX_invokedynamic, eX_ireturn, eX_freturn, eX_lreturn, eX_return, eI_s, eJ_s, eP_s, eSI_s, eSJ_s, eSP_s, eInc_s, eAdd_s, eSub_s, eMul_s, eDiv_s, eRem_s, eAnd_s, eLand_s, eLor_s, eLshl_s, eLushr_s, eLcmp_s, eI2l_s, eL2i_s, eDup_s, eDup2_s, eIf_s, eIc_s, eBr_eq, eBr_ne, eBr_lt, eBr_ge, eBr_gt, eBr_le, eNn_s, eNn_n, eG3_s, eG2_s, eGf_s, eP2_s, ePf_s, eAI2_s, eAZ2_s, eAJ2_s, eAQ2_s, eAI_s, eAZ_s, eAJ_s, eAQ_s, eXI2_s, eXZ2_s, eXJ2_s, eXQ2_s, eXI_s, eXZ_s, eXJ_s, eXQ_s, eL2_s, eLn_s, eNa_i, eNa_z, eNa_j, eNq_s, eK_s, eK_n, eR2_s, eRv_s, eRi_s, eCv_s, eCs_s, eCi_s, ePop_s, eMx_s, eMn_s, eCp_s, eCp2_i, eCp2_j, eJd_1, eJd_2, eJd_3, eRI_s, eRZ_s, eRJ_s, eRV_s, zsg_s, zsg_n, zsg_c, List.set_set, Option.map_some, ne_eq, not_false_eq_true, zfit_0, zfit_1, zfit_12, zkd, ↓reduceIte, zc1_I, zc1_P, zset1, zset2, zclr, List.getElem?_cons_zero, List.getElem?_cons_succ, List.set_cons_zero, List.set_cons_succ, List.length_cons, List.length_nil, List.take_succ_cons, List.take_zero, List.drop_succ_cons, List.drop_zero, List.reverse_cons, List.reverse_nil, List.nil_append, List.cons_append, Option.toList_some, Option.toList_none, Nat.reduceAdd, Nat.reduceSub, Nat.reduceLeDiff, Nat.reduceBEq, Nat.reduceEqDiff, Int.reduceToNat, Bool.or_false, Bool.false_or, Bool.or_true, Bool.true_or, Bool.false_eq_true, if_true, if_false, ite_true, ite_false, and_true, true_and, and_self, reduceCtorEq, Int.reduceLT, Int.reduceLE, Int.reduceNeg, Int.reduceAdd, Int.reduceSub, Int.reduceMul, Nat.le_refl, or_true, true_or, or_self, Int.reduceEq, za_138, kh_34 k, g35, hf3, e9, e1]
    ((try unfold zr); (try unfold zix); (repeat' first | exact trivial | assumption | (with_reducible rfl) | omega | (refine And.intro ?_ ?_)))
  | succ d ih =>
    intro t f ht h1 hf
    have hf3 : f 3 = n := by rw [hf, if_neg (by omega)]; exact hn.1
    have k1 := ks_35 k f
    have g35 : (h.set 35 (aI 1099 f))[35]? = some (aI 1099 f) := kh_35 k1
    have e1 : (t : Int) < ((87 + 40 * (n - 1) : Nat) : Int) := by omega
    have e2 : ((t : Int) + 40).toNat = t + 40 := by omega
    have e3 : ((t : Int)).toNat = t := by omega
    have ft : f (t + 40) = F 35 (t + 40) := by rw [hf, if_neg (by omega)]
    have c3 := ih (t + 1) (va_up f t (F 35 (t + 40))) (by omega) (by omega) (fun u => by
      rw [y_up]
      by_cases z : u = t
      · rw [if_pos z, if_pos (by omega), z]
      · rw [if_neg z, hf]
        by_cases y : 87 + 40 * e ≤ u ∧ u < t
        · rw [if_pos y, if_pos (by omega)]
        · rw [if_neg y, if_neg (by omega)])
    refine Go_on (fun p => p == 22) 400 ?_; simp only [Ge_s, eM_s, zct_0, zct_I, zct_P, zct_J, eX_iconst, eX_ldc2w, eX_iload, eX_lload, eX_aload, eX_istore, eX_lstore, eX_astore, eX_iinc, eX_iadd, eX_isub, eX_imul, eX_idiv, eX_irem, eX_iand, eX_land, eX_lor, eX_lshl, eX_lushr, eX_lcmp, eX_i2l, eX_l2i, eX_dup, eX_dup2, eX_ifCond, eX_ificmp, eX_goto, eX_ifnonnull, eX_tableswitch, eX_invokeinterface, eX_multianewarray, eX_getstatic, eX_iaload, eX_laload, eX_baload, eX_aaload, eX_iastore, eX_bastore, eX_lastore, eX_aastore, eX_arraylength, eX_new, eX_newarray, eX_anewarray, eX_invokevirtual, eX_invokestatic, eX_invokespecial, eX_pop, eX_invokedynamic, eX_ireturn, eX_freturn, eX_lreturn, eX_return, eI_s, eJ_s, eP_s, eSI_s, eSJ_s, eSP_s, eInc_s, eAdd_s, eSub_s, eMul_s, eDiv_s, eRem_s, eAnd_s, eLand_s, eLor_s, eLshl_s, eLushr_s, eLcmp_s, eI2l_s, eL2i_s, eDup_s, eDup2_s, eIf_s, eIc_s, eBr_eq, eBr_ne, eBr_lt, eBr_ge, eBr_gt, eBr_le, eNn_s, eNn_n, eG3_s, eG2_s, eGf_s, eP2_s, ePf_s, eAI2_s, eAZ2_s, eAJ2_s, eAQ2_s, eAI_s, eAZ_s, eAJ_s, eAQ_s, eXI2_s, eXZ2_s, eXJ2_s, eXQ2_s, eXI_s, eXZ_s, eXJ_s, eXQ_s, eL2_s, eLn_s, eNa_i, eNa_z, eNa_j, eNq_s, eK_s, eK_n, eR2_s, eRv_s, eRi_s, eCv_s, eCs_s, eCi_s, ePop_s, eMx_s, eMn_s, eCp_s, eCp2_i, eCp2_j, eJd_1, eJd_2, eJd_3, eRI_s, eRZ_s, eRJ_s, eRV_s, zsg_s, zsg_n, zsg_c, List.set_set, Option.map_some, ne_eq, not_false_eq_true, zfit_0, zfit_1, zfit_12, zkd, ↓reduceIte, zc1_I, zc1_P, zset1, zset2, zclr, List.getElem?_cons_zero, List.getElem?_cons_succ, List.set_cons_zero, List.set_cons_succ, List.length_cons, List.length_nil, List.take_succ_cons, List.take_zero, List.drop_succ_cons, List.drop_zero, List.reverse_cons, List.reverse_nil, List.nil_append, List.cons_append, Option.toList_some, Option.toList_none, Nat.reduceAdd, Nat.reduceSub, Nat.reduceLeDiff, Nat.reduceBEq, Nat.reduceEqDiff, Int.reduceToNat, Bool.or_false, Bool.false_or, Bool.or_true, Bool.true_or, Bool.false_eq_true, if_true, if_false, ite_true, ite_false, and_true, true_and, and_self, reduceCtorEq, Int.reduceLT, Int.reduceLE, Int.reduceNeg, Int.reduceAdd, Int.reduceSub, Int.reduceMul, Nat.le_refl, or_true, true_or, or_self, Int.reduceEq, za_138, kh_34 k, g35, hf3, e9, e1, e2, e3, ft]
    ((try unfold zr); (try unfold zix); (repeat' first | exact trivial | assumption | (with_reducible rfl) | omega | (refine And.intro ?_ ?_)))
set_option maxRecDepth 100000 in
theorem M_drop_bad (k : zKH h F J V P) (c : MR F V A) (g : gAl A) (e : Int) (he : zr e) (x : ¬ (0 ≤ e ∧ e < (sbk (aS A)).length)) : Mu h F J V P 138 [vR 34, vI e] A (-1) := by
  have b1 := m_isEntry (h := h) k (sbk (aS A)).length ⟨c.1.1.2.1, g.1.2.1.1⟩ e he
  rw [if_neg x] at b1
  refine Mu_same k c ?_
  rw [ce_138, ← Ge_eq (fun _ => false) 138 _ 400]; simp only [Ge_s, eM_s, zct_0, zct_I, zct_P, zct_J, eX_iconst, eX_ldc2w, eX_iload, eX_lload, eX_aload, eX_istore, eX_lstore, eX_astore, eX_iinc, eX_iadd, eX_isub, eX_imul, eX_idiv, eX_irem, eX_iand, eX_land, eX_lor, eX_lshl, eX_lushr, eX_lcmp, eX_i2l, eX_l2i, eX_dup, eX_dup2, eX_ifCond, eX_ificmp, eX_goto, eX_ifnonnull, eX_tableswitch, eX_invokeinterface, eX_multianewarray, eX_getstatic, eX_iaload, eX_laload, eX_baload, eX_aaload, eX_iastore, eX_bastore, eX_lastore, eX_aastore, eX_arraylength, eX_new, eX_newarray, eX_anewarray, eX_invokevirtual, eX_invokestatic, eX_invokespecial, eX_pop, eX_invokedynamic, eX_ireturn, eX_freturn, eX_lreturn, eX_return, eI_s, eJ_s, eP_s, eSI_s, eSJ_s, eSP_s, eInc_s, eAdd_s, eSub_s, eMul_s, eDiv_s, eRem_s, eAnd_s, eLand_s, eLor_s, eLshl_s, eLushr_s, eLcmp_s, eI2l_s, eL2i_s, eDup_s, eDup2_s, eIf_s, eIc_s, eBr_eq, eBr_ne, eBr_lt, eBr_ge, eBr_gt, eBr_le, eNn_s, eNn_n, eG3_s, eG2_s, eGf_s, eP2_s, ePf_s, eAI2_s, eAZ2_s, eAJ2_s, eAQ2_s, eAI_s, eAZ_s, eAJ_s, eAQ_s, eXI2_s, eXZ2_s, eXJ2_s, eXQ2_s, eXI_s, eXZ_s, eXJ_s, eXQ_s, eL2_s, eLn_s, eNa_i, eNa_z, eNa_j, eNq_s, eK_s, eK_n, eR2_s, eRv_s, eRi_s, eCv_s, eCs_s, eCi_s, ePop_s, eMx_s, eMn_s, eCp_s, eCp2_i, eCp2_j, eJd_1, eJd_2, eJd_3, eRI_s, eRZ_s, eRJ_s, eRV_s, zsg_s, zsg_n, zsg_c, List.set_set, Option.map_some, ne_eq, not_false_eq_true, zfit_0, zfit_1, zfit_12, zkd, ↓reduceIte, zc1_I, zc1_P, zset1, zset2, zclr, List.getElem?_cons_zero, List.getElem?_cons_succ, List.set_cons_zero, List.set_cons_succ, List.length_cons, List.length_nil, List.take_succ_cons, List.take_zero, List.drop_succ_cons, List.drop_zero, List.reverse_cons, List.reverse_nil, List.nil_append, List.cons_append, Option.toList_some, Option.toList_none, Nat.reduceAdd, Nat.reduceSub, Nat.reduceLeDiff, Nat.reduceBEq, Nat.reduceEqDiff, Int.reduceToNat, Bool.or_false, Bool.false_or, Bool.or_true, Bool.true_or, Bool.false_eq_true, if_true, if_false, ite_true, ite_false, and_true, true_and, and_self, reduceCtorEq, Int.reduceLT, Int.reduceLE, Int.reduceNeg, Int.reduceAdd, Int.reduceSub, Int.reduceMul, Nat.le_refl, or_true, true_or, or_self, Int.reduceEq, za_138, zf_113, kh_34 k, b1]
  ((try unfold zr); (try unfold zix); (repeat' first | exact trivial | assumption | (with_reducible rfl) | omega | (refine And.intro ?_ ?_)))
set_option maxRecDepth 100000 in
theorem M_drop (k : zKH h F J V P) (c : MR F V A) (g : gAl A) (e : Nat) (he : e < (sbk (aS A)).length) : Mu h F J V P 138 [vR 34, vI e] (((aS A).1, bdr (sbk (aS A)) e, (aS A).2.2), aP A, ykp (aL A) (aS A), a6 A, a7 A) (((sbk (aS A)).length : Int) - 1) := by
  intro Q hQ
  have g16 := g.1.2.1.1
  have b1 := m_isEntry (h := h) k (sbk (aS A)).length ⟨c.1.1.2.1, g.1.2.1.1⟩ e (by unfold zr; omega)
  rw [if_pos (by omega)] at b1
  have c3 := m_record k c g (eK (fun pc ls st h => Go 138 pc ls st h Q) 14 [vR 34, vI e, vU] []) (fun h2 F2 V2 k2 mr ce fr f36 v11 => by
    rw [eK_n]
    have rm2 : rM (F2 35) (aS A) := mr.1
    have r3 : F2 35 3 = (sbk (aS A)).length := rm2.1.2.1
    have c4 := m_drop_l k2 (sbk (aS A)).length e ⟨r3, g16, he⟩ Q (fun f hf3 hf x => by
      have k3 := ks_35 k2 f
      have g35 : (h2.set 35 (aI 1099 f))[35]? = some (aI 1099 f) := kh_35 k3
      have k4 := ks_35 k2 (va_up f 3 (((sbk (aS A)).length : Int) - 1))
      have g35' : (h2.set 35 (aI 1099 (va_up f 3 (((sbk (aS A)).length : Int) - 1))))[35]? = some (aI 1099 (va_up f 3 (((sbk (aS A)).length : Int) - 1))) := kh_35 k4
      have e5 : va_up f 3 (((sbk (aS A)).length : Int) - 1) 3 = ((sbk (aS A)).length : Int) - 1 := rfl
      have c5 := hQ _ _ _ k4 (MR_35 mr _ ((aS A).1, bdr (sbk (aS A)) e, (aS A).2.2) (rM_drop rm2 g.1 e he _ e5 (fun t ht => by
        rw [y_up, if_neg ht]
        exact hf t ht))) (ce.F 35 (by omega) _) (fr.st 35 (by omega) _)
      refine Go_on (fun _ => false) 400 ?_; simp only [Ge_s, eM_s, zct_0, zct_I, zct_P, zct_J, eX_iconst, eX_ldc2w, eX_iload, eX_lload, eX_aload, eX_istore, eX_lstore, eX_astore, eX_iinc, eX_iadd, eX_isub, eX_imul, eX_idiv, eX_irem, eX_iand, eX_land, eX_lor, eX_lshl, eX_lushr, eX_lcmp, eX_i2l, eX_l2i, eX_dup, eX_dup2, eX_ifCond, eX_ificmp, eX_goto, eX_ifnonnull, eX_tableswitch, eX_invokeinterface, eX_multianewarray, eX_getstatic, eX_iaload, eX_laload, eX_baload, eX_aaload, eX_iastore, eX_bastore, eX_lastore, eX_aastore, eX_arraylength, eX_new, eX_newarray, eX_anewarray, eX_invokevirtual, eX_invokestatic, eX_invokespecial, eX_pop, eX_invokedynamic, eX_ireturn, eX_freturn, eX_lreturn, eX_return, eI_s, eJ_s, eP_s, eSI_s, eSJ_s, eSP_s, eInc_s, eAdd_s, eSub_s, eMul_s, eDiv_s, eRem_s, eAnd_s, eLand_s, eLor_s, eLshl_s, eLushr_s, eLcmp_s, eI2l_s, eL2i_s, eDup_s, eDup2_s, eIf_s, eIc_s, eBr_eq, eBr_ne, eBr_lt, eBr_ge, eBr_gt, eBr_le, eNn_s, eNn_n, eG3_s, eG2_s, eGf_s, eP2_s, ePf_s, eAI2_s, eAZ2_s, eAJ2_s, eAQ2_s, eAI_s, eAZ_s, eAJ_s, eAQ_s, eXI2_s, eXZ2_s, eXJ2_s, eXQ2_s, eXI_s, eXZ_s, eXJ_s, eXQ_s, eL2_s, eLn_s, eNa_i, eNa_z, eNa_j, eNq_s, eK_s, eK_n, eR2_s, eRv_s, eRi_s, eCv_s, eCs_s, eCi_s, ePop_s, eMx_s, eMn_s, eCp_s, eCp2_i, eCp2_j, eJd_1, eJd_2, eJd_3, eRI_s, eRZ_s, eRJ_s, eRV_s, zsg_s, zsg_n, zsg_c, List.set_set, Option.map_some, ne_eq, not_false_eq_true, zfit_0, zfit_1, zfit_12, zkd, ↓reduceIte, zc1_I, zc1_P, zset1, zset2, zclr, List.getElem?_cons_zero, List.getElem?_cons_succ, List.set_cons_zero, List.set_cons_succ, List.length_cons, List.length_nil, List.take_succ_cons, List.take_zero, List.drop_succ_cons, List.drop_zero, List.reverse_cons, List.reverse_nil, List.nil_append, List.cons_append, Option.toList_some, Option.toList_none, Nat.reduceAdd, Nat.reduceSub, Nat.reduceLeDiff, Nat.reduceBEq, Nat.reduceEqDiff, Int.reduceToNat, Bool.or_false, Bool.false_or, Bool.or_true, Bool.true_or, Bool.false_eq_true, if_true, if_false, ite_true, ite_false, and_true, true_and, and_self, reduceCtorEq, Int.reduceLT, Int.reduceLE, Int.reduceNeg, Int.reduceAdd, Int.reduceSub, Int.reduceMul, Nat.le_refl, or_true, true_or, or_self, Int.reduceEq, za_138, kh_34 k2, g35, g35', hf3, e5]
      ((try unfold zr); (try unfold zix); (repeat' first | exact trivial | assumption | (with_reducible rfl) | omega | (refine And.intro ?_ ?_)))) (87 + 40 * ((sbk (aS A)).length - 1) - (87 + 40 * e)) (87 + 40 * e) (F2 35) (by omega) (by omega) (fun u => by rw [if_neg (by omega)])
    rw [zsg_i (kh_35 k2)] at c4
    have e9 : ((87 + 40 * e : Nat) : Int) = 87 + 40 * (e : Int) := by omega
    rw [e9] at c4
    refine Go_on (fun p => p == 22) 400 ?_; simp only [Ge_s, eM_s, zct_0, zct_I, zct_P, zct_J, eX_iconst, eX_ldc2w, eX_iload, eX_lload, eX_aload, eX_istore, eX_lstore, eX_astore, eX_iinc, eX_iadd, eX_isub, eX_imul, eX_idiv, eX_irem, eX_iand, eX_land, eX_lor, eX_lshl, eX_lushr, eX_lcmp, eX_i2l, eX_l2i, eX_dup, eX_dup2, eX_ifCond, eX_ificmp, eX_goto, eX_ifnonnull, eX_tableswitch, eX_invokeinterface, eX_multianewarray, eX_getstatic, eX_iaload, eX_laload, eX_baload, eX_aaload, eX_iastore, eX_bastore, eX_lastore, eX_aastore, eX_arraylength, eX_new, eX_newarray, eX_anewarray, eX_invokevirtual, eX_invokestatic, eX_invokespecial, eX_pop, eX_invokedynamic, eX_ireturn, eX_freturn, eX_lreturn, eX_return, eI_s, eJ_s, eP_s, eSI_s, eSJ_s, eSP_s, eInc_s, eAdd_s, eSub_s, eMul_s, eDiv_s, eRem_s, eAnd_s, eLand_s, eLor_s, eLshl_s, eLushr_s, eLcmp_s, eI2l_s, eL2i_s, eDup_s, eDup2_s, eIf_s, eIc_s, eBr_eq, eBr_ne, eBr_lt, eBr_ge, eBr_gt, eBr_le, eNn_s, eNn_n, eG3_s, eG2_s, eGf_s, eP2_s, ePf_s, eAI2_s, eAZ2_s, eAJ2_s, eAQ2_s, eAI_s, eAZ_s, eAJ_s, eAQ_s, eXI2_s, eXZ2_s, eXJ2_s, eXQ2_s, eXI_s, eXZ_s, eXJ_s, eXQ_s, eL2_s, eLn_s, eNa_i, eNa_z, eNa_j, eNq_s, eK_s, eK_n, eR2_s, eRv_s, eRi_s, eCv_s, eCs_s, eCi_s, ePop_s, eMx_s, eMn_s, eCp_s, eCp2_i, eCp2_j, eJd_1, eJd_2, eJd_3, eRI_s, eRZ_s, eRJ_s, eRV_s, zsg_s, zsg_n, zsg_c, List.set_set, Option.map_some, ne_eq, not_false_eq_true, zfit_0, zfit_1, zfit_12, zkd, ↓reduceIte, zc1_I, zc1_P, zset1, zset2, zclr, List.getElem?_cons_zero, List.getElem?_cons_succ, List.set_cons_zero, List.set_cons_succ, List.length_cons, List.length_nil, List.take_succ_cons, List.take_zero, List.drop_succ_cons, List.drop_zero, List.reverse_cons, List.reverse_nil, List.nil_append, List.cons_append, Option.toList_some, Option.toList_none, Nat.reduceAdd, Nat.reduceSub, Nat.reduceLeDiff, Nat.reduceBEq, Nat.reduceEqDiff, Int.reduceToNat, Bool.or_false, Bool.false_or, Bool.or_true, Bool.true_or, Bool.false_eq_true, if_true, if_false, ite_true, ite_false, and_true, true_and, and_self, reduceCtorEq, Int.reduceLT, Int.reduceLE, Int.reduceNeg, Int.reduceAdd, Int.reduceSub, Int.reduceMul, Nat.le_refl, or_true, true_or, or_self, Int.reduceEq, za_138]
    ((try unfold zr); (try unfold zix); (repeat' first | exact trivial | assumption | (with_reducible rfl) | omega | (refine And.intro ?_ ?_))))
  rw [ce_138, ← Ge_eq (fun p => p == 14) 138 _ 400]; simp only [Ge_s, eM_s, zct_0, zct_I, zct_P, zct_J, eX_iconst, eX_ldc2w, eX_iload, eX_lload, eX_aload, eX_istore, eX_lstore, eX_astore, eX_iinc, eX_iadd, eX_isub, eX_imul, eX_idiv, eX_irem, eX_iand, eX_land, eX_lor, eX_lshl, eX_lushr, eX_lcmp, eX_i2l, eX_l2i, eX_dup, eX_dup2, eX_ifCond, eX_ificmp, eX_goto, eX_ifnonnull, eX_tableswitch, eX_invokeinterface, eX_multianewarray, eX_getstatic, eX_iaload, eX_laload, eX_baload, eX_aaload, eX_iastore, eX_bastore, eX_lastore, eX_aastore, eX_arraylength, eX_new, eX_newarray, eX_anewarray, eX_invokevirtual, eX_invokestatic, eX_invokespecial, eX_pop, eX_invokedynamic, eX_ireturn, eX_freturn, eX_lreturn, eX_return, eI_s, eJ_s, eP_s, eSI_s, eSJ_s, eSP_s, eInc_s, eAdd_s, eSub_s, eMul_s, eDiv_s, eRem_s, eAnd_s, eLand_s, eLor_s, eLshl_s, eLushr_s, eLcmp_s, eI2l_s, eL2i_s, eDup_s, eDup2_s, eIf_s, eIc_s, eBr_eq, eBr_ne, eBr_lt, eBr_ge, eBr_gt, eBr_le, eNn_s, eNn_n, eG3_s, eG2_s, eGf_s, eP2_s, ePf_s, eAI2_s, eAZ2_s, eAJ2_s, eAQ2_s, eAI_s, eAZ_s, eAJ_s, eAQ_s, eXI2_s, eXZ2_s, eXJ2_s, eXQ2_s, eXI_s, eXZ_s, eXJ_s, eXQ_s, eL2_s, eLn_s, eNa_i, eNa_z, eNa_j, eNq_s, eK_s, eK_n, eR2_s, eRv_s, eRi_s, eCv_s, eCs_s, eCi_s, ePop_s, eMx_s, eMn_s, eCp_s, eCp2_i, eCp2_j, eJd_1, eJd_2, eJd_3, eRI_s, eRZ_s, eRJ_s, eRV_s, zsg_s, zsg_n, zsg_c, List.set_set, Option.map_some, ne_eq, not_false_eq_true, zfit_0, zfit_1, zfit_12, zkd, ↓reduceIte, zc1_I, zc1_P, zset1, zset2, zclr, List.getElem?_cons_zero, List.getElem?_cons_succ, List.set_cons_zero, List.set_cons_succ, List.length_cons, List.length_nil, List.take_succ_cons, List.take_zero, List.drop_succ_cons, List.drop_zero, List.reverse_cons, List.reverse_nil, List.nil_append, List.cons_append, Option.toList_some, Option.toList_none, Nat.reduceAdd, Nat.reduceSub, Nat.reduceLeDiff, Nat.reduceBEq, Nat.reduceEqDiff, Int.reduceToNat, Bool.or_false, Bool.false_or, Bool.or_true, Bool.true_or, Bool.false_eq_true, if_true, if_false, ite_true, ite_false, and_true, true_and, and_self, reduceCtorEq, Int.reduceLT, Int.reduceLE, Int.reduceNeg, Int.reduceAdd, Int.reduceSub, Int.reduceMul, Nat.le_refl, or_true, true_or, or_self, Int.reduceEq, za_138, zf_113, zf_105, kh_34 k, b1]
  ((try unfold zr); (try unfold zix); (repeat' first | exact trivial | assumption | (with_reducible rfl) | omega | (refine And.intro ?_ ?_)))
set_option maxRecDepth 100000 in
theorem M_undo (k : zKH h F J V P) (c : MR F V A) (g : gAl A) : (aL A = [] → Mu h F J V P 171 [vR 34] A (-5)) ∧ ∀ L T, aL A = L ++ [T] → Mu h F J V P 171 [vR 34] (T, aP A, L, a6 A, a7 A) L.length := by
  obtain ⟨r1, r2, r3, r4, r5⟩ := id c
  refine ⟨fun e => ?_, fun L T e Q hQ => ?_⟩
  · refine Mu_same k c ?_
    have v11 : V 11 = 0 := by rw [r2.1, e]; rfl
    rw [ce_171, ← Ge_eq (fun _ => false) 171 _ 400]; simp only [Ge_s, eM_s, zct_0, zct_I, zct_P, zct_J, eX_iconst, eX_ldc2w, eX_iload, eX_lload, eX_aload, eX_istore, eX_lstore, eX_astore, eX_iinc, eX_iadd, eX_isub, eX_imul, eX_idiv, eX_irem, eX_iand, eX_land, eX_lor, eX_lshl, eX_lushr, eX_lcmp, eX_i2l, eX_l2i, eX_dup, eX_dup2, eX_ifCond, eX_ificmp, eX_goto, eX_ifnonnull, eX_tableswitch, eX_invokeinterface, eX_multianewarray, eX_getstatic, eX_iaload, eX_laload, eX_baload, eX_aaload, eX_iastore, eX_bastore, eX_lastore, eX_aastore, eX_arraylength, eX_new, eX_newarray, eX_anewarray, eX_invokevirtual, eX_invokestatic, eX_invokespecial, eX_pop, eX_invokedynamic, eX_ireturn, eX_freturn, eX_lreturn, eX_return, eI_s, eJ_s, eP_s, eSI_s, eSJ_s, eSP_s, eInc_s, eAdd_s, eSub_s, eMul_s, eDiv_s, eRem_s, eAnd_s, eLand_s, eLor_s, eLshl_s, eLushr_s, eLcmp_s, eI2l_s, eL2i_s, eDup_s, eDup2_s, eIf_s, eIc_s, eBr_eq, eBr_ne, eBr_lt, eBr_ge, eBr_gt, eBr_le, eNn_s, eNn_n, eG3_s, eG2_s, eGf_s, eP2_s, ePf_s, eAI2_s, eAZ2_s, eAJ2_s, eAQ2_s, eAI_s, eAZ_s, eAJ_s, eAQ_s, eXI2_s, eXZ2_s, eXJ2_s, eXQ2_s, eXI_s, eXZ_s, eXJ_s, eXQ_s, eL2_s, eLn_s, eNa_i, eNa_z, eNa_j, eNq_s, eK_s, eK_n, eR2_s, eRv_s, eRi_s, eCv_s, eCs_s, eCi_s, ePop_s, eMx_s, eMn_s, eCp_s, eCp2_i, eCp2_j, eJd_1, eJd_2, eJd_3, eRI_s, eRZ_s, eRJ_s, eRV_s, zsg_s, zsg_n, zsg_c, List.set_set, Option.map_some, ne_eq, not_false_eq_true, zfit_0, zfit_1, zfit_12, zkd, ↓reduceIte, zc1_I, zc1_P, zset1, zset2, zclr, List.getElem?_cons_zero, List.getElem?_cons_succ, List.set_cons_zero, List.set_cons_succ, List.length_cons, List.length_nil, List.take_succ_cons, List.take_zero, List.drop_succ_cons, List.drop_zero, List.reverse_cons, List.reverse_nil, List.nil_append, List.cons_append, Option.toList_some, Option.toList_none, Nat.reduceAdd, Nat.reduceSub, Nat.reduceLeDiff, Nat.reduceBEq, Nat.reduceEqDiff, Int.reduceToNat, Bool.or_false, Bool.false_or, Bool.or_true, Bool.true_or, Bool.false_eq_true, if_true, if_false, ite_true, ite_false, and_true, true_and, and_self, reduceCtorEq, Int.reduceLT, Int.reduceLE, Int.reduceNeg, Int.reduceAdd, Int.reduceSub, Int.reduceMul, Nat.le_refl, or_true, true_or, or_self, Int.reduceEq, za_171, kh_34 k, v11]
    ((try unfold zr); (try unfold zix); (repeat' first | exact trivial | assumption | (with_reducible rfl) | omega | (refine And.intro ?_ ?_)))
  · have el : (aL A).length = L.length + 1 := by rw [e]; simp
    have v11 : V 11 = (L.length : Int) + 1 := by rw [r2.1, el]; rfl
    have l6 := r2.2
    have hne : ¬ (L.length : Int) + 1 = 0 := by omega
    have hT : (aL A)[L.length]? = some T := by rw [e, List.getElem?_append_right (Nat.le_refl _), Nat.sub_self]; rfl
    have e1 : (L.length : Int) + 1 - 1 = L.length := by omega
    have e2 : (L.length : Int) * 1099 = ((1099 * L.length : Nat) : Int) := by omega
    have k1 := ks34_11 k (L.length : Int)
    have b1 := m_copy (h := h.set 34 (o34 L.length (V 12) (V 13) (V 14))) (kh_36 k1) (kh_35 k1) (by omega) (by omega) (1099 * L.length) 0 (by omega) (by omega) (by omega)
    have t0 : ((0 : Nat) : Int) = 0 := rfl
    rw [t0] at b1
    have k2 := ks_35 k1 (va_cpy (F 36) (F 35) (1099 * L.length) 0 1099)
    have g34 : ((h.set 34 (o34 L.length (V 12) (V 13) (V 14))).set 35 (aI 1099 (va_cpy (F 36) (F 35) (1099 * L.length) 0 1099)))[34]? = some (o34 L.length (V 12) (V 13) (V 14)) := by have x := kh_34 k2; exact x
    have c3 := hQ _ _ _ k2 ⟨rM_cg (g.2.1 _ T hT) (r3 L.length (by omega) T hT) (fun t ht => by
        show va_cpy (F 36) (F 35) (1099 * L.length) 0 1099 t = F 36 (1099 * L.length + t)
        unfold va_cpy
        rw [if_pos (by omega)]
        exact congrArg (F 36) (by omega)), ⟨rfl, by show L.length ≤ 6; omega⟩, fun i hi T' hT' => by
        have hi : i < L.length := hi
        exact r3 i (by omega) T' (by rw [e, List.getElem?_append_left hi]; exact hT'), r4, r5⟩ ((cEq.rf.V 11 (by omega) _).F 35 (by omega) _) ((hfr.rf.st 34 (by omega) _).st 35 (by omega) _)
    have g34a : (h.set 34 (o34 L.length (V 12) (V 13) (V 14)))[34]? = some (o34 L.length (V 12) (V 13) (V 14)) := by have x := kh_34 k1; exact x
    rw [ce_171, ← Ge_eq (fun _ => false) 171 _ 400]; simp only [Ge_s, eM_s, zct_0, zct_I, zct_P, zct_J, eX_iconst, eX_ldc2w, eX_iload, eX_lload, eX_aload, eX_istore, eX_lstore, eX_astore, eX_iinc, eX_iadd, eX_isub, eX_imul, eX_idiv, eX_irem, eX_iand, eX_land, eX_lor, eX_lshl, eX_lushr, eX_lcmp, eX_i2l, eX_l2i, eX_dup, eX_dup2, eX_ifCond, eX_ificmp, eX_goto, eX_ifnonnull, eX_tableswitch, eX_invokeinterface, eX_multianewarray, eX_getstatic, eX_iaload, eX_laload, eX_baload, eX_aaload, eX_iastore, eX_bastore, eX_lastore, eX_aastore, eX_arraylength, eX_new, eX_newarray, eX_anewarray, eX_invokevirtual, eX_invokestatic, eX_invokespecial, eX_pop, eX_invokedynamic, eX_ireturn, eX_freturn, eX_lreturn, eX_return, eI_s, eJ_s, eP_s, eSI_s, eSJ_s, eSP_s, eInc_s, eAdd_s, eSub_s, eMul_s, eDiv_s, eRem_s, eAnd_s, eLand_s, eLor_s, eLshl_s, eLushr_s, eLcmp_s, eI2l_s, eL2i_s, eDup_s, eDup2_s, eIf_s, eIc_s, eBr_eq, eBr_ne, eBr_lt, eBr_ge, eBr_gt, eBr_le, eNn_s, eNn_n, eG3_s, eG2_s, eGf_s, eP2_s, ePf_s, eAI2_s, eAZ2_s, eAJ2_s, eAQ2_s, eAI_s, eAZ_s, eAJ_s, eAQ_s, eXI2_s, eXZ2_s, eXJ2_s, eXQ2_s, eXI_s, eXZ_s, eXJ_s, eXQ_s, eL2_s, eLn_s, eNa_i, eNa_z, eNa_j, eNq_s, eK_s, eK_n, eR2_s, eRv_s, eRi_s, eCv_s, eCs_s, eCi_s, ePop_s, eMx_s, eMn_s, eCp_s, eCp2_i, eCp2_j, eJd_1, eJd_2, eJd_3, eRI_s, eRZ_s, eRJ_s, eRV_s, zsg_s, zsg_n, zsg_c, List.set_set, Option.map_some, ne_eq, not_false_eq_true, zfit_0, zfit_1, zfit_12, zkd, ↓reduceIte, zc1_I, zc1_P, zset1, zset2, zclr, List.getElem?_cons_zero, List.getElem?_cons_succ, List.set_cons_zero, List.set_cons_succ, List.length_cons, List.length_nil, List.take_succ_cons, List.take_zero, List.drop_succ_cons, List.drop_zero, List.reverse_cons, List.reverse_nil, List.nil_append, List.cons_append, Option.toList_some, Option.toList_none, Nat.reduceAdd, Nat.reduceSub, Nat.reduceLeDiff, Nat.reduceBEq, Nat.reduceEqDiff, Int.reduceToNat, Bool.or_false, Bool.false_or, Bool.or_true, Bool.true_or, Bool.false_eq_true, if_true, if_false, ite_true, ite_false, and_true, true_and, and_self, reduceCtorEq, Int.reduceLT, Int.reduceLE, Int.reduceNeg, Int.reduceAdd, Int.reduceSub, Int.reduceMul, Nat.le_refl, or_true, true_or, or_self, Int.reduceEq, za_171, zf_103, kh_34 k, g34a, g34, v11, hne, e1, e2, b1]
    ((try unfold zr); (try unfold zix); (repeat' first | exact trivial | assumption | (with_reducible rfl) | omega | (refine And.intro ?_ ?_)))
set_option maxRecDepth 100000 in
theorem agt_asl (A : yA) (s : Nat) (hs : s < 2) (T : yS) (u : Nat) (hu : u < 2) : agt (asl A s T) u = if u = s then some T else agt A u := by
  unfold agt asl
  rcases (show s = 0 ∨ s = 1 by omega) with rfl | rfl
  · rcases (show u = 0 ∨ u = 1 by omega) with rfl | rfl <;> rfl
  · rcases (show u = 0 ∨ u = 1 by omega) with rfl | rfl <;> rfl
set_option maxRecDepth 100000 in
theorem asl_p (A : yA) (s : Nat) (T : yS) : aS (asl A s T) = aS A ∧ aP (asl A s T) = aP A ∧ aL (asl A s T) = aL A := by
  unfold asl
  split
  · exact ⟨rfl, rfl, rfl⟩
  · exact ⟨rfl, rfl, rfl⟩
set_option maxRecDepth 100000 in
theorem M_save_bad (k : zKH h F J V P) (c : MR F V A) (s : Int) (hz : zr s) (hs : s < 0 ∨ 2 ≤ s) : Mu h F J V P 172 [vR 34, vI s] A (-2) := by
  refine Mu_same k c ?_
  have b2 := m_within (h := h) (v := s) (l := 0) (g := 1) hz (by unfold zr; omega) (by unfold zr; omega)
  rw [if_neg (by omega)] at b2
  rw [ce_172, ← Ge_eq (fun _ => false) 172 _ 400]; simp only [Ge_s, eM_s, zct_0, zct_I, zct_P, zct_J, eX_iconst, eX_ldc2w, eX_iload, eX_lload, eX_aload, eX_istore, eX_lstore, eX_astore, eX_iinc, eX_iadd, eX_isub, eX_imul, eX_idiv, eX_irem, eX_iand, eX_land, eX_lor, eX_lshl, eX_lushr, eX_lcmp, eX_i2l, eX_l2i, eX_dup, eX_dup2, eX_ifCond, eX_ificmp, eX_goto, eX_ifnonnull, eX_tableswitch, eX_invokeinterface, eX_multianewarray, eX_getstatic, eX_iaload, eX_laload, eX_baload, eX_aaload, eX_iastore, eX_bastore, eX_lastore, eX_aastore, eX_arraylength, eX_new, eX_newarray, eX_anewarray, eX_invokevirtual, eX_invokestatic, eX_invokespecial, eX_pop, eX_invokedynamic, eX_ireturn, eX_freturn, eX_lreturn, eX_return, eI_s, eJ_s, eP_s, eSI_s, eSJ_s, eSP_s, eInc_s, eAdd_s, eSub_s, eMul_s, eDiv_s, eRem_s, eAnd_s, eLand_s, eLor_s, eLshl_s, eLushr_s, eLcmp_s, eI2l_s, eL2i_s, eDup_s, eDup2_s, eIf_s, eIc_s, eBr_eq, eBr_ne, eBr_lt, eBr_ge, eBr_gt, eBr_le, eNn_s, eNn_n, eG3_s, eG2_s, eGf_s, eP2_s, ePf_s, eAI2_s, eAZ2_s, eAJ2_s, eAQ2_s, eAI_s, eAZ_s, eAJ_s, eAQ_s, eXI2_s, eXZ2_s, eXJ2_s, eXQ2_s, eXI_s, eXZ_s, eXJ_s, eXQ_s, eL2_s, eLn_s, eNa_i, eNa_z, eNa_j, eNq_s, eK_s, eK_n, eR2_s, eRv_s, eRi_s, eCv_s, eCs_s, eCi_s, ePop_s, eMx_s, eMn_s, eCp_s, eCp2_i, eCp2_j, eJd_1, eJd_2, eJd_3, eRI_s, eRZ_s, eRJ_s, eRV_s, zsg_s, zsg_n, zsg_c, List.set_set, Option.map_some, ne_eq, not_false_eq_true, zfit_0, zfit_1, zfit_12, zkd, ↓reduceIte, zc1_I, zc1_P, zset1, zset2, zclr, List.getElem?_cons_zero, List.getElem?_cons_succ, List.set_cons_zero, List.set_cons_succ, List.length_cons, List.length_nil, List.take_succ_cons, List.take_zero, List.drop_succ_cons, List.drop_zero, List.reverse_cons, List.reverse_nil, List.nil_append, List.cons_append, Option.toList_some, Option.toList_none, Nat.reduceAdd, Nat.reduceSub, Nat.reduceLeDiff, Nat.reduceBEq, Nat.reduceEqDiff, Int.reduceToNat, Bool.or_false, Bool.false_or, Bool.or_true, Bool.true_or, Bool.false_eq_true, if_true, if_false, ite_true, ite_false, and_true, true_and, and_self, reduceCtorEq, Int.reduceLT, Int.reduceLE, Int.reduceNeg, Int.reduceAdd, Int.reduceSub, Int.reduceMul, Nat.le_refl, or_true, true_or, or_self, Int.reduceEq, za_172, zf_104, b2]
  ((try unfold zr); (try unfold zix); (repeat' first | exact trivial | assumption | (with_reducible rfl) | omega | (refine And.intro ?_ ?_)))
set_option maxRecDepth 100000 in
theorem M_restore_bad (k : zKH h F J V P) (c : MR F V A) (s : Int) (hz : zr s) (hs : s < 0 ∨ 2 ≤ s) : Mu h F J V P 173 [vR 34, vI s] A (-2) := by
  refine Mu_same k c ?_
  have b2 := m_within (h := h) (v := s) (l := 0) (g := 1) hz (by unfold zr; omega) (by unfold zr; omega)
  rw [if_neg (by omega)] at b2
  rw [ce_173, ← Ge_eq (fun _ => false) 173 _ 400]; simp only [Ge_s, eM_s, zct_0, zct_I, zct_P, zct_J, eX_iconst, eX_ldc2w, eX_iload, eX_lload, eX_aload, eX_istore, eX_lstore, eX_astore, eX_iinc, eX_iadd, eX_isub, eX_imul, eX_idiv, eX_irem, eX_iand, eX_land, eX_lor, eX_lshl, eX_lushr, eX_lcmp, eX_i2l, eX_l2i, eX_dup, eX_dup2, eX_ifCond, eX_ificmp, eX_goto, eX_ifnonnull, eX_tableswitch, eX_invokeinterface, eX_multianewarray, eX_getstatic, eX_iaload, eX_laload, eX_baload, eX_aaload, eX_iastore, eX_bastore, eX_lastore, eX_aastore, eX_arraylength, eX_new, eX_newarray, eX_anewarray, eX_invokevirtual, eX_invokestatic, eX_invokespecial, eX_pop, eX_invokedynamic, eX_ireturn, eX_freturn, eX_lreturn, eX_return, eI_s, eJ_s, eP_s, eSI_s, eSJ_s, eSP_s, eInc_s, eAdd_s, eSub_s, eMul_s, eDiv_s, eRem_s, eAnd_s, eLand_s, eLor_s, eLshl_s, eLushr_s, eLcmp_s, eI2l_s, eL2i_s, eDup_s, eDup2_s, eIf_s, eIc_s, eBr_eq, eBr_ne, eBr_lt, eBr_ge, eBr_gt, eBr_le, eNn_s, eNn_n, eG3_s, eG2_s, eGf_s, eP2_s, ePf_s, eAI2_s, eAZ2_s, eAJ2_s, eAQ2_s, eAI_s, eAZ_s, eAJ_s, eAQ_s, eXI2_s, eXZ2_s, eXJ2_s, eXQ2_s, eXI_s, eXZ_s, eXJ_s, eXQ_s, eL2_s, eLn_s, eNa_i, eNa_z, eNa_j, eNq_s, eK_s, eK_n, eR2_s, eRv_s, eRi_s, eCv_s, eCs_s, eCi_s, ePop_s, eMx_s, eMn_s, eCp_s, eCp2_i, eCp2_j, eJd_1, eJd_2, eJd_3, eRI_s, eRZ_s, eRJ_s, eRV_s, zsg_s, zsg_n, zsg_c, List.set_set, Option.map_some, ne_eq, not_false_eq_true, zfit_0, zfit_1, zfit_12, zkd, ↓reduceIte, zc1_I, zc1_P, zset1, zset2, zclr, List.getElem?_cons_zero, List.getElem?_cons_succ, List.set_cons_zero, List.set_cons_succ, List.length_cons, List.length_nil, List.take_succ_cons, List.take_zero, List.drop_succ_cons, List.drop_zero, List.reverse_cons, List.reverse_nil, List.nil_append, List.cons_append, Option.toList_some, Option.toList_none, Nat.reduceAdd, Nat.reduceSub, Nat.reduceLeDiff, Nat.reduceBEq, Nat.reduceEqDiff, Int.reduceToNat, Bool.or_false, Bool.false_or, Bool.or_true, Bool.true_or, Bool.false_eq_true, if_true, if_false, ite_true, ite_false, and_true, true_and, and_self, reduceCtorEq, Int.reduceLT, Int.reduceLE, Int.reduceNeg, Int.reduceAdd, Int.reduceSub, Int.reduceMul, Nat.le_refl, or_true, true_or, or_self, Int.reduceEq, za_173, zf_104, b2]
  ((try unfold zr); (try unfold zix); (repeat' first | exact trivial | assumption | (with_reducible rfl) | omega | (refine And.intro ?_ ?_)))
set_option maxRecDepth 100000 in
theorem M_save (k : zKH h F J V P) (c : MR F V A) (g : gAl A) (s : Nat) (hs : s < 2) : Mu h F J V P 172 [vR 34, vI s] (asl A s (aS A)) (sbk (aS A)).length := by
  intro Q hQ
  obtain ⟨r1, r2, r3, r4, r5⟩ := id c
  have b2 := m_within (h := h) (v := (s : Int)) (l := 0) (g := 1) (by unfold zr; omega) (by unfold zr; omega) (by unfold zr; omega)
  rw [if_pos (by omega)] at b2
  have e2 : (1099 : Int) * (s : Int) = ((1099 * s : Nat) : Int) := by omega
  have e3 : ((s : Int)).toNat = s := by omega
  have b1 := m_copy (h := h) (kh_35 k) (kh_37 k) (by omega) (by omega) 0 (1099 * s) (by omega) (by omega) (by omega)
  have t0 : ((0 : Nat) : Int) = 0 := rfl
  rw [t0] at b1
  have k1 := ks_37 k (va_cpy (F 35) (F 37) 0 (1099 * s) 1099)
  have k2 := ks_38 k1 (va_up (F 38) s 1)
  have g38 : (h.set 37 (aI 2198 (va_cpy (F 35) (F 37) 0 (1099 * s) 1099)))[38]? = some (aI 2 (F 38)) := by have x := kh_38 k1; exact x
  have g35 : ((h.set 37 (aI 2198 (va_cpy (F 35) (F 37) 0 (1099 * s) 1099))).set 38 (aI 2 (va_up (F 38) s 1)))[35]? = some (aI 1099 (F 35)) := by have x := kh_35 k2; exact x
  have p := asl_p A s (aS A)
  have c3 := hQ _ _ _ k2 ⟨by rw [p.1]; exact r1, by rw [p.2.2]; exact r2, by rw [p.2.2]; exact r3, fun u hu => by
    rw [agt_asl A s hs (aS A) u hu]
    show (_ → va_up (F 38) s 1 u = 0) ∧ ∀ T, _ → va_up (F 38) s 1 u = 1 ∧ rM (fun t => va_cpy (F 35) (F 37) 0 (1099 * s) 1099 (1099 * u + t)) T
    rw [y_up]
    by_cases z : u = s
    · rw [if_pos z, if_pos z]
      refine ⟨fun y => absurd y (by simp), fun T hT => ⟨rfl, ?_⟩⟩
      cases hT
      refine rM_cg g.1 r1 fun t ht => ?_
      show va_cpy (F 35) (F 37) 0 (1099 * s) 1099 (1099 * u + t) = F 35 t
      unfold va_cpy
      rw [if_pos (by omega)]
      exact congrArg (F 35) (by omega)
    · rw [if_neg z, if_neg z]
      refine ⟨(r4 u hu).1, fun T hT => ⟨((r4 u hu).2 T hT).1, ?_⟩⟩
      refine rM_cg (g.2.2 u hu T hT) ((r4 u hu).2 T hT).2 fun t ht => ?_
      show va_cpy (F 35) (F 37) 0 (1099 * s) 1099 (1099 * u + t) = F 37 (1099 * u + t)
      unfold va_cpy
      rw [if_neg (by omega)], by rw [p.2.1]; exact r5⟩ ((cEq.rf.F 37 (by omega) _).F 38 (by omega) _) ((hfr.rf.st 37 (by omega) _).st 38 (by omega) _)
  have e6 : F 35 3 = (sbk (aS A)).length := r1.1.2.1
  rw [ce_172, ← Ge_eq (fun _ => false) 172 _ 400]; simp only [Ge_s, eM_s, zct_0, zct_I, zct_P, zct_J, eX_iconst, eX_ldc2w, eX_iload, eX_lload, eX_aload, eX_istore, eX_lstore, eX_astore, eX_iinc, eX_iadd, eX_isub, eX_imul, eX_idiv, eX_irem, eX_iand, eX_land, eX_lor, eX_lshl, eX_lushr, eX_lcmp, eX_i2l, eX_l2i, eX_dup, eX_dup2, eX_ifCond, eX_ificmp, eX_goto, eX_ifnonnull, eX_tableswitch, eX_invokeinterface, eX_multianewarray, eX_getstatic, eX_iaload, eX_laload, eX_baload, eX_aaload, eX_iastore, eX_bastore, eX_lastore, eX_aastore, eX_arraylength, eX_new, eX_newarray, eX_anewarray, eX_invokevirtual, eX_invokestatic, eX_invokespecial, eX_pop, eX_invokedynamic, eX_ireturn, eX_freturn, eX_lreturn, eX_return, eI_s, eJ_s, eP_s, eSI_s, eSJ_s, eSP_s, eInc_s, eAdd_s, eSub_s, eMul_s, eDiv_s, eRem_s, eAnd_s, eLand_s, eLor_s, eLshl_s, eLushr_s, eLcmp_s, eI2l_s, eL2i_s, eDup_s, eDup2_s, eIf_s, eIc_s, eBr_eq, eBr_ne, eBr_lt, eBr_ge, eBr_gt, eBr_le, eNn_s, eNn_n, eG3_s, eG2_s, eGf_s, eP2_s, ePf_s, eAI2_s, eAZ2_s, eAJ2_s, eAQ2_s, eAI_s, eAZ_s, eAJ_s, eAQ_s, eXI2_s, eXZ2_s, eXJ2_s, eXQ2_s, eXI_s, eXZ_s, eXJ_s, eXQ_s, eL2_s, eLn_s, eNa_i, eNa_z, eNa_j, eNq_s, eK_s, eK_n, eR2_s, eRv_s, eRi_s, eCv_s, eCs_s, eCi_s, ePop_s, eMx_s, eMn_s, eCp_s, eCp2_i, eCp2_j, eJd_1, eJd_2, eJd_3, eRI_s, eRZ_s, eRJ_s, eRV_s, zsg_s, zsg_n, zsg_c, List.set_set, Option.map_some, ne_eq, not_false_eq_true, zfit_0, zfit_1, zfit_12, zkd, ↓reduceIte, zc1_I, zc1_P, zset1, zset2, zclr, List.getElem?_cons_zero, List.getElem?_cons_succ, List.set_cons_zero, List.set_cons_succ, List.length_cons, List.length_nil, List.take_succ_cons, List.take_zero, List.drop_succ_cons, List.drop_zero, List.reverse_cons, List.reverse_nil, List.nil_append, List.cons_append, Option.toList_some, Option.toList_none, Nat.reduceAdd, Nat.reduceSub, Nat.reduceLeDiff, Nat.reduceBEq, Nat.reduceEqDiff, Int.reduceToNat, Bool.or_false, Bool.false_or, Bool.or_true, Bool.true_or, Bool.false_eq_true, if_true, if_false, ite_true, ite_false, and_true, true_and, and_self, reduceCtorEq, Int.reduceLT, Int.reduceLE, Int.reduceNeg, Int.reduceAdd, Int.reduceSub, Int.reduceMul, Nat.le_refl, or_true, true_or, or_self, Int.reduceEq, za_172, zf_104, zf_103, kh_34 k, kh_34 k1, kh_34 k2, b2, e2, e3, b1, g38, g35, e6]
  ((try unfold zr); (try unfold zix); (repeat' first | exact trivial | assumption | (with_reducible rfl) | omega | (refine And.intro ?_ ?_)))
set_option maxRecDepth 100000 in
theorem M_restore_none (k : zKH h F J V P) (c : MR F V A) (s : Nat) (hs : s < 2) (hn : agt A s = none) : Mu h F J V P 173 [vR 34, vI s] A (-5) := by
  refine Mu_same k c ?_
  have b2 := m_within (h := h) (v := (s : Int)) (l := 0) (g := 1) (by unfold zr; omega) (by unfold zr; omega) (by unfold zr; omega)
  rw [if_pos (by omega)] at b2
  have e3 : ((s : Int)).toNat = s := by omega
  have e4 := (c.2.2.2.1 s hs).1 hn
  rw [ce_173, ← Ge_eq (fun _ => false) 173 _ 400]; simp only [Ge_s, eM_s, zct_0, zct_I, zct_P, zct_J, eX_iconst, eX_ldc2w, eX_iload, eX_lload, eX_aload, eX_istore, eX_lstore, eX_astore, eX_iinc, eX_iadd, eX_isub, eX_imul, eX_idiv, eX_irem, eX_iand, eX_land, eX_lor, eX_lshl, eX_lushr, eX_lcmp, eX_i2l, eX_l2i, eX_dup, eX_dup2, eX_ifCond, eX_ificmp, eX_goto, eX_ifnonnull, eX_tableswitch, eX_invokeinterface, eX_multianewarray, eX_getstatic, eX_iaload, eX_laload, eX_baload, eX_aaload, eX_iastore, eX_bastore, eX_lastore, eX_aastore, eX_arraylength, eX_new, eX_newarray, eX_anewarray, eX_invokevirtual, eX_invokestatic, eX_invokespecial, eX_pop, eX_invokedynamic, eX_ireturn, eX_freturn, eX_lreturn, eX_return, eI_s, eJ_s, eP_s, eSI_s, eSJ_s, eSP_s, eInc_s, eAdd_s, eSub_s, eMul_s, eDiv_s, eRem_s, eAnd_s, eLand_s, eLor_s, eLshl_s, eLushr_s, eLcmp_s, eI2l_s, eL2i_s, eDup_s, eDup2_s, eIf_s, eIc_s, eBr_eq, eBr_ne, eBr_lt, eBr_ge, eBr_gt, eBr_le, eNn_s, eNn_n, eG3_s, eG2_s, eGf_s, eP2_s, ePf_s, eAI2_s, eAZ2_s, eAJ2_s, eAQ2_s, eAI_s, eAZ_s, eAJ_s, eAQ_s, eXI2_s, eXZ2_s, eXJ2_s, eXQ2_s, eXI_s, eXZ_s, eXJ_s, eXQ_s, eL2_s, eLn_s, eNa_i, eNa_z, eNa_j, eNq_s, eK_s, eK_n, eR2_s, eRv_s, eRi_s, eCv_s, eCs_s, eCi_s, ePop_s, eMx_s, eMn_s, eCp_s, eCp2_i, eCp2_j, eJd_1, eJd_2, eJd_3, eRI_s, eRZ_s, eRJ_s, eRV_s, zsg_s, zsg_n, zsg_c, List.set_set, Option.map_some, ne_eq, not_false_eq_true, zfit_0, zfit_1, zfit_12, zkd, ↓reduceIte, zc1_I, zc1_P, zset1, zset2, zclr, List.getElem?_cons_zero, List.getElem?_cons_succ, List.set_cons_zero, List.set_cons_succ, List.length_cons, List.length_nil, List.take_succ_cons, List.take_zero, List.drop_succ_cons, List.drop_zero, List.reverse_cons, List.reverse_nil, List.nil_append, List.cons_append, Option.toList_some, Option.toList_none, Nat.reduceAdd, Nat.reduceSub, Nat.reduceLeDiff, Nat.reduceBEq, Nat.reduceEqDiff, Int.reduceToNat, Bool.or_false, Bool.false_or, Bool.or_true, Bool.true_or, Bool.false_eq_true, if_true, if_false, ite_true, ite_false, and_true, true_and, and_self, reduceCtorEq, Int.reduceLT, Int.reduceLE, Int.reduceNeg, Int.reduceAdd, Int.reduceSub, Int.reduceMul, Nat.le_refl, or_true, true_or, or_self, Int.reduceEq, za_173, zf_104, kh_34 k, kh_38 k, b2, e3, e4]
  ((try unfold zr); (try unfold zix); (repeat' first | exact trivial | assumption | (with_reducible rfl) | omega | (refine And.intro ?_ ?_)))
set_option maxRecDepth 100000 in
theorem M_restore (k : zKH h F J V P) (c : MR F V A) (g : gAl A) (s : Nat) (hs : s < 2) (T : yS) (hT : agt A s = some T) : Mu h F J V P 173 [vR 34, vI s] (T, aP A, ykp (aL A) (aS A), a6 A, a7 A) (sbk T).length := by
  intro Q hQ
  have b2 := m_within (h := h) (v := (s : Int)) (l := 0) (g := 1) (by unfold zr; omega) (by unfold zr; omega) (by unfold zr; omega)
  rw [if_pos (by omega)] at b2
  have e2 : (1099 : Int) * (s : Int) = ((1099 * s : Nat) : Int) := by omega
  have e3 : ((s : Int)).toNat = s := by omega
  have e4 := ((c.2.2.2.1 s hs).2 T hT).1
  have gT := g.2.2 s hs T hT
  have c3 := m_record k c g (eK (fun pc ls st h => Go 173 pc ls st h Q) 28 [vR 34, vI s] []) (fun h2 F2 V2 k2 mr ce fr f36 v11 => by
    rw [eK_n]
    have b1 := m_copy (h := h2) (kh_37 k2) (kh_35 k2) (by omega) (by omega) (1099 * s) 0 (by omega) (by omega) (by omega)
    have t0 : ((0 : Nat) : Int) = 0 := rfl
    rw [t0] at b1
    have k3 := ks_35 k2 (va_cpy (F2 37) (F2 35) (1099 * s) 0 1099)
    have g35 : (h2.set 35 (aI 1099 (va_cpy (F2 37) (F2 35) (1099 * s) 0 1099)))[35]? = some (aI 1099 (va_cpy (F2 37) (F2 35) (1099 * s) 0 1099)) := kh_35 k3
    have rT : rM (va_cpy (F2 37) (F2 35) (1099 * s) 0 1099) T := rM_cg gT ((mr.2.2.2.1 s hs).2 T hT).2 (fun t ht => by
      show va_cpy (F2 37) (F2 35) (1099 * s) 0 1099 t = F2 37 (1099 * s + t)
      unfold va_cpy
      rw [if_pos (by omega)]
      exact congrArg (F2 37) (by omega))
    have c4 := hQ _ _ _ k3 (MR_35 mr _ T rT) (ce.F 35 (by omega) _) (fr.st 35 (by omega) _)
    have e6 : va_cpy (F2 37) (F2 35) (1099 * s) 0 1099 3 = (sbk T).length := rT.1.2.1
    refine Go_on (fun _ => false) 400 ?_; simp only [Ge_s, eM_s, zct_0, zct_I, zct_P, zct_J, eX_iconst, eX_ldc2w, eX_iload, eX_lload, eX_aload, eX_istore, eX_lstore, eX_astore, eX_iinc, eX_iadd, eX_isub, eX_imul, eX_idiv, eX_irem, eX_iand, eX_land, eX_lor, eX_lshl, eX_lushr, eX_lcmp, eX_i2l, eX_l2i, eX_dup, eX_dup2, eX_ifCond, eX_ificmp, eX_goto, eX_ifnonnull, eX_tableswitch, eX_invokeinterface, eX_multianewarray, eX_getstatic, eX_iaload, eX_laload, eX_baload, eX_aaload, eX_iastore, eX_bastore, eX_lastore, eX_aastore, eX_arraylength, eX_new, eX_newarray, eX_anewarray, eX_invokevirtual, eX_invokestatic, eX_invokespecial, eX_pop, eX_invokedynamic, eX_ireturn, eX_freturn, eX_lreturn, eX_return, eI_s, eJ_s, eP_s, eSI_s, eSJ_s, eSP_s, eInc_s, eAdd_s, eSub_s, eMul_s, eDiv_s, eRem_s, eAnd_s, eLand_s, eLor_s, eLshl_s, eLushr_s, eLcmp_s, eI2l_s, eL2i_s, eDup_s, eDup2_s, eIf_s, eIc_s, eBr_eq, eBr_ne, eBr_lt, eBr_ge, eBr_gt, eBr_le, eNn_s, eNn_n, eG3_s, eG2_s, eGf_s, eP2_s, ePf_s, eAI2_s, eAZ2_s, eAJ2_s, eAQ2_s, eAI_s, eAZ_s, eAJ_s, eAQ_s, eXI2_s, eXZ2_s, eXJ2_s, eXQ2_s, eXI_s, eXZ_s, eXJ_s, eXQ_s, eL2_s, eLn_s, eNa_i, eNa_z, eNa_j, eNq_s, eK_s, eK_n, eR2_s, eRv_s, eRi_s, eCv_s, eCs_s, eCi_s, ePop_s, eMx_s, eMn_s, eCp_s, eCp2_i, eCp2_j, eJd_1, eJd_2, eJd_3, eRI_s, eRZ_s, eRJ_s, eRV_s, zsg_s, zsg_n, zsg_c, List.set_set, Option.map_some, ne_eq, not_false_eq_true, zfit_0, zfit_1, zfit_12, zkd, ↓reduceIte, zc1_I, zc1_P, zset1, zset2, zclr, List.getElem?_cons_zero, List.getElem?_cons_succ, List.set_cons_zero, List.set_cons_succ, List.length_cons, List.length_nil, List.take_succ_cons, List.take_zero, List.drop_succ_cons, List.drop_zero, List.reverse_cons, List.reverse_nil, List.nil_append, List.cons_append, Option.toList_some, Option.toList_none, Nat.reduceAdd, Nat.reduceSub, Nat.reduceLeDiff, Nat.reduceBEq, Nat.reduceEqDiff, Int.reduceToNat, Bool.or_false, Bool.false_or, Bool.or_true, Bool.true_or, Bool.false_eq_true, if_true, if_false, ite_true, ite_false, and_true, true_and, and_self, reduceCtorEq, Int.reduceLT, Int.reduceLE, Int.reduceNeg, Int.reduceAdd, Int.reduceSub, Int.reduceMul, Nat.le_refl, or_true, true_or, or_self, Int.reduceEq, za_173, zf_103, kh_34 k2, kh_34 k3, e2, b1, g35, e6]
    ((try unfold zr); (try unfold zix); (repeat' first | exact trivial | assumption | (with_reducible rfl) | omega | (refine And.intro ?_ ?_))))
  rw [ce_173, ← Ge_eq (fun p => p == 28) 173 _ 400]; simp only [Ge_s, eM_s, zct_0, zct_I, zct_P, zct_J, eX_iconst, eX_ldc2w, eX_iload, eX_lload, eX_aload, eX_istore, eX_lstore, eX_astore, eX_iinc, eX_iadd, eX_isub, eX_imul, eX_idiv, eX_irem, eX_iand, eX_land, eX_lor, eX_lshl, eX_lushr, eX_lcmp, eX_i2l, eX_l2i, eX_dup, eX_dup2, eX_ifCond, eX_ificmp, eX_goto, eX_ifnonnull, eX_tableswitch, eX_invokeinterface, eX_multianewarray, eX_getstatic, eX_iaload, eX_laload, eX_baload, eX_aaload, eX_iastore, eX_bastore, eX_lastore, eX_aastore, eX_arraylength, eX_new, eX_newarray, eX_anewarray, eX_invokevirtual, eX_invokestatic, eX_invokespecial, eX_pop, eX_invokedynamic, eX_ireturn, eX_freturn, eX_lreturn, eX_return, eI_s, eJ_s, eP_s, eSI_s, eSJ_s, eSP_s, eInc_s, eAdd_s, eSub_s, eMul_s, eDiv_s, eRem_s, eAnd_s, eLand_s, eLor_s, eLshl_s, eLushr_s, eLcmp_s, eI2l_s, eL2i_s, eDup_s, eDup2_s, eIf_s, eIc_s, eBr_eq, eBr_ne, eBr_lt, eBr_ge, eBr_gt, eBr_le, eNn_s, eNn_n, eG3_s, eG2_s, eGf_s, eP2_s, ePf_s, eAI2_s, eAZ2_s, eAJ2_s, eAQ2_s, eAI_s, eAZ_s, eAJ_s, eAQ_s, eXI2_s, eXZ2_s, eXJ2_s, eXQ2_s, eXI_s, eXZ_s, eXJ_s, eXQ_s, eL2_s, eLn_s, eNa_i, eNa_z, eNa_j, eNq_s, eK_s, eK_n, eR2_s, eRv_s, eRi_s, eCv_s, eCs_s, eCi_s, ePop_s, eMx_s, eMn_s, eCp_s, eCp2_i, eCp2_j, eJd_1, eJd_2, eJd_3, eRI_s, eRZ_s, eRJ_s, eRV_s, zsg_s, zsg_n, zsg_c, List.set_set, Option.map_some, ne_eq, not_false_eq_true, zfit_0, zfit_1, zfit_12, zkd, ↓reduceIte, zc1_I, zc1_P, zset1, zset2, zclr, List.getElem?_cons_zero, List.getElem?_cons_succ, List.set_cons_zero, List.set_cons_succ, List.length_cons, List.length_nil, List.take_succ_cons, List.take_zero, List.drop_succ_cons, List.drop_zero, List.reverse_cons, List.reverse_nil, List.nil_append, List.cons_append, Option.toList_some, Option.toList_none, Nat.reduceAdd, Nat.reduceSub, Nat.reduceLeDiff, Nat.reduceBEq, Nat.reduceEqDiff, Int.reduceToNat, Bool.or_false, Bool.false_or, Bool.or_true, Bool.true_or, Bool.false_eq_true, if_true, if_false, ite_true, ite_false, and_true, true_and, and_self, reduceCtorEq, Int.reduceLT, Int.reduceLE, Int.reduceNeg, Int.reduceAdd, Int.reduceSub, Int.reduceMul, Nat.le_refl, or_true, true_or, or_self, Int.reduceEq, za_173, zf_104, zf_105, kh_34 k, kh_38 k, b2, e3, e4]
  ((try unfold zr); (try unfold zix); (repeat' first | exact trivial | assumption | (with_reducible rfl) | omega | (refine And.intro ?_ ?_)))
end
