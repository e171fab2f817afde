/-! The class: the cheapest way -/
abbrev yQ : Type := Int × Int × Nat × Int
abbrev yq0 : yQ := (0, 0, 0, -6)
def ynw (x y cost count : Int) : Prop := cost < x ∨ (cost = x ∧ count ≤ y)
/-- the best of the first s ways from a place on -/
def yv (E : Nat → Int) (wo pc co : Int) (L : List yQ) : Nat → yQ
  | 0 => (pc + (L.getD 0 yq0).1, 1 + (L.getD 0 yq0).2.1, 1, -6)
  | s + 1 => if s < L.length ∧ E (s + 1) ≠ -6 ∧ E (s + 1) ≠ wo ∧ (co + (L.getD s yq0).1 < (yv E wo pc co L s).1 ∨ (co + (L.getD s yq0).1 = (yv E wo pc co L s).1 ∧ 1 + (L.getD s yq0).2.1 ≤ (yv E wo pc co L s).2.1)) then (co + (L.getD s yq0).1, 1 + (L.getD s yq0).2.1, s + 1, E (s + 1)) else yv E wo pc co L s
def yD (E : Nat → Nat → Int) (wo : Int) (pc : Nat → Int) (co : Int) (n : Nat) : Nat → List yQ
  | 0 => [yq0]
  | d + 1 => yv (E (n - (d + 1))) wo (pc (n - (d + 1))) co (yD E wo pc co n d) 3 :: yD E wo pc co n d
set_option maxRecDepth 100000 in
theorem yD_len (E : Nat → Nat → Int) (wo : Int) (pc : Nat → Int) (co : Int) (n : Nat) : ∀ d, (yD E wo pc co n d).length = d + 1 := by
  intro d
  induction d with
  | zero => rfl
  | succ d ih => unfold yD; rw [List.length_cons, ih]
def yqR (d : Nat) (q : yQ) : Prop := (0 ≤ q.1 ∧ q.1 ≤ 1300 * (d : Int)) ∧ 0 ≤ q.2.1 ∧ q.2.1 ≤ d
set_option maxRecDepth 100000 in
theorem yv_r {E : Nat → Int} {wo pc co : Int} {L : List yQ} {d : Nat} (hp : 0 ≤ pc ∧ pc ≤ 1300) (hc : 0 ≤ co ∧ co ≤ 1300) (hL : ∀ j, yqR d (L.getD j yq0)) : ∀ s, yqR (d + 1) (yv E wo pc co L s) := by
  intro s
  induction s with
  | zero =>
    have := hL 0
    unfold yqR at this
    unfold yv yqR
    dsimp only
    omega
  | succ s ih =>
    have := hL s
    unfold yqR at this
    unfold yv
    split
    · unfold yqR
      dsimp only
      omega
    · exact ih
set_option maxRecDepth 100000 in
theorem yD_r {E : Nat → Nat → Int} {wo : Int} {pc : Nat → Int} {co : Int} {n : Nat} (hp : ∀ i, 0 ≤ pc i ∧ pc i ≤ 1300) (hc : 0 ≤ co ∧ co ≤ 1300) : ∀ d j, yqR d ((yD E wo pc co n d).getD j yq0) := by
  intro d
  induction d with
  | zero =>
    intro j
    have e : (yD E wo pc co n 0).getD j yq0 = yq0 := by
      unfold yD
      cases j with
      | zero => rfl
      | succ j => rfl
    rw [e]
    unfold yqR
    dsimp only
    omega
  | succ d ih =>
    intro j
    unfold yD
    cases j with
    | zero => exact yv_r (hp _) hc ih 3
    | succ j =>
      have := ih j
      show yqR (d + 1) ((yD E wo pc co n d).getD j yq0)
      unfold yqR at *
      omega
def hhR (h : zH) (a b c e : Nat → Int) : zH := (((h.set 27 (aI 13 a)).set 28 (aI 13 b)).set 29 (aI 12 c)).set 30 (aI 12 e)
def yRel (i d : Nat) (L : List yQ) (a b c e : Nat → Int) : Prop := ∀ j, j ≤ d → (a (i + j) = (L.getD j yq0).1 ∧ b (i + j) = (L.getD j yq0).2.1) ∧ (j < d → c (i + j) = (L.getD j yq0).2.2.1 ∧ e (i + j) = (L.getD j yq0).2.2.2)
set_option maxRecDepth 100000 in
theorem yRel_up {i d : Nat} {L : List yQ} {a b c e : Nat → Int} (h : yRel (i + 1) d L a b c e) (q : yQ) : yRel i (d + 1) (q :: L) (va_up a i q.1) (va_up b i q.2.1) (va_up c i q.2.2.1) (va_up e i q.2.2.2) := by
  intro j hj
  rw [y_up, y_up, y_up, y_up]
  cases j with
  | zero => rw [if_pos (by omega), if_pos (by omega), if_pos (by omega), if_pos (by omega)]; exact ⟨⟨rfl, rfl⟩, fun _ => ⟨rfl, rfl⟩⟩
  | succ j =>
    rw [if_neg (by omega), if_neg (by omega), if_neg (by omega), if_neg (by omega)]
    have := h j (by omega)
    have e1 : i + 1 + j = i + (j + 1) := by omega
    rw [e1] at this
    exact ⟨this.1, fun x => this.2 (by omega)⟩
set_option maxRecDepth 100000 in
theorem yRel_tl {i d : Nat} {q : yQ} {L : List yQ} {a b c e : Nat → Int} (h : yRel i (d + 1) (q :: L) a b c e) : yRel (i + 1) d L a b c e := by
  intro j hj
  have := h (j + 1) (by omega)
  have e1 : i + (j + 1) = i + 1 + j := by omega
  rw [e1] at this
  exact ⟨this.1, fun x => this.2 (by omega)⟩
section
variable {h : zH} {F : Nat → Nat → Int} {J : Nat → Nat → Nat} {V : Nat → Int} {P : Nat → Nat → Option Nat} {bk : yB} {co wi ap : Int} {ms : yF}
abbrev uR (F : Nat → Nat → Int) (a b c e : Nat → Int) : Nat → Nat → Int := uF (uF (uF (uF F 27 a) 28 b) 29 c) 30 e
set_option maxRecDepth 100000 in
theorem kh_hhR (k : zKH h F J V P) (a b c e : Nat → Int) : zKH (hhR h a b c e) (uR F a b c e) J V P := ks_30 (ks_29 (ks_28 (ks_27 k a) b) c) e
set_option maxRecDepth 100000 in
theorem c_choose (k : zKH h F J V P) (a b c e : Nat → Int) (i s : Nat) (en cost : Int) (hi : i < 12) (hs : i + s ≤ 12) (Q : zQ) : Ca 35 [vR 26, vI i, vI s, vI en, vI cost] (hhR h a b c e) Q ↔ Q none (hhR h (va_up a i (cost + a (i + s))) (va_up b i (1 + b (i + s))) (va_up c i s) (va_up e i en)) := by
  refine Ca.iff ?_ Q
  have k0 := kh_hhR k a b c e
  have z0 : (i : Int).toNat = i := by omega
  have z1 : atI 13 a ((i : Int) + s) = a (i + s) := by rw [atI_in (by omega)]; exact congrArg a (by omega)
  have z2 : ∀ b' : Nat → Int, atI 13 b ((i : Int) + s) = b (i + s) := fun _ => by rw [atI_in (by omega)]; exact congrArg b (by omega)
  have z2 := z2 b
  have b1 := c_at (h := hhR h a b c e) (i := (i : Int) + s) (n := 13) (f := a) (kh_27 k0) (by omega) (by unfold zr; omega)
  rw [z1] at b1
  have b2 := c_lay (h := hhR h a b c e) (n := 13) (f := a) (i := i) (v := cost + a (i + s)) (kh_27 k0) (by omega) (by omega) (by omega)
  have s2 : (hhR h a b c e).set 27 (aI 13 (va_up a i (cost + a (i + s)))) = hhR h (va_up a i (cost + a (i + s))) b c e := by
    unfold hhR
    rw [zsg_c (i := 30) (j := 27) (by omega), zsg_c (i := 29) (j := 27) (by omega), zsg_c (i := 28) (j := 27) (by omega), List.set_set]
  rw [z0, s2] at b2
  generalize va_up a i (cost + a (i + s)) = a' at *
  have k1 := kh_hhR k a' b c e
  have b3 := c_at (h := hhR h a' b c e) (i := (i : Int) + s) (n := 13) (f := b) (kh_28 k1) (by omega) (by unfold zr; omega)
  rw [z2] at b3
  have b4 := c_lay (h := hhR h a' b c e) (n := 13) (f := b) (i := i) (v := 1 + b (i + s)) (kh_28 k1) (by omega) (by omega) (by omega)
  have s4 : (hhR h a' b c e).set 28 (aI 13 (va_up b i (1 + b (i + s)))) = hhR h a' (va_up b i (1 + b (i + s))) c e := by
    unfold hhR
    rw [zsg_c (i := 30) (j := 28) (by omega), zsg_c (i := 29) (j := 28) (by omega), List.set_set]
  rw [z0, s4] at b4
  generalize va_up b i (1 + b (i + s)) = b' at *
  have k2 := kh_hhR k a' b' c e
  have b5 := c_lay (h := hhR h a' b' c e) (n := 12) (f := c) (i := i) (v := s) (kh_29 k2) (by omega) (by omega) (by omega)
  have s5 : (hhR h a' b' c e).set 29 (aI 12 (va_up c i s)) = hhR h a' b' (va_up c i s) e := by
    unfold hhR
    rw [zsg_c (i := 30) (j := 29) (by omega), List.set_set]
  rw [z0, s5] at b5
  generalize va_up c i (s : Int) = c' at *
  have k3 := kh_hhR k a' b' c' e
  have b6 := c_lay (h := hhR h a' b' c' e) (n := 12) (f := e) (i := i) (v := en) (kh_30 k3) (by omega) (by omega) (by omega)
  have s6 : (hhR h a' b' c' e).set 30 (aI 12 (va_up e i en)) = hhR h a' b' c' (va_up e i en) := by
    unfold hhR
    rw [List.set_set]
  rw [z0, s6] at b6
  rw [ce_35, ← Ge_eq (fun _ => false) 35 _ 400]; simp only [Ge_s, eM_s, zct_0, zct_I, zct_P, zct_J, eX_iconst, eX_ldc2w, eX_iload, eX_lload, eX_aload, eX_istore, eX_lstore, eX_astore, eX_iinc, eX_iadd, eX_isub, eX_imul, eX_idiv, eX_irem, eX_iand, eX_ishl, eX_ishr, eX_ixor, eX_ineg, eX_dupx2, eX_pop2, eX_land, eX_lor, eX_lshl, eX_lushr, eX_lcmp, eX_i2l, eX_l2i, eX_dup, eX_dup2, eX_ifCond, eX_ificmp, eX_goto, eX_ifnonnull, eX_tableswitch, eX_invokeinterface, eX_multianewarray, eX_getstatic, eX_iaload, eX_laload, eX_baload, eX_aaload, eX_iastore, eX_bastore, eX_lastore, eX_aastore, eX_arraylength, eX_new, eX_newarray, eX_anewarray, eX_invokevirtual, eX_invokestatic, eX_invokespecial, eX_pop, eX_invokedynamic, eX_ireturn, eX_freturn, eX_lreturn, eX_return, eI_s, eJ_s, eP_s, eSI_s, eSJ_s, eSP_s, eInc_s, eAdd_s, eSub_s, eMul_s, eDiv_s, eRem_s, eAnd_s, eXor_s, eNeg_s, eIshl_s, eIshr_s, eDx2_s, ePo2_s, zan_31, zan_255, zan_1, zan_15, zan_m, eLand_s, eLor_s, eLshl_s, eLushr_s, eLcmp_s, eI2l_s, eL2i_s, eDup_s, eDup2_s, eIf_s, eIc_s, eBr_eq, eBr_ne, eBr_lt, eBr_ge, eBr_gt, eBr_le, eNn_s, eNn_n, eG3_s, eG2_s, eGf_s, eP2_s, ePf_s, eAI2_s, eAZ2_s, eAJ2_s, eAQ2_s, eAI_s, eAZ_s, eAJ_s, eAQ_s, eXI2_s, eXZ2_s, eXJ2_s, eXQ2_s, eXI_s, eXZ_s, eXJ_s, eXQ_s, eL2_s, eLn_s, eNa_i, eNa_z, eNa_j, eNq_s, eK_s, eK_n, eR2_s, eRv_s, eRi_s, eCv_s, eCs_s, eCi_s, ePop_s, eMx_s, eMn_s, eCp_s, eCp2_i, eCp2_j, eJd_1, eJd_2, eJd_3, eRI_s, eRZ_s, eRJ_s, eRV_s, zsg_s, zsg_n, zsg_c, List.set_set, Option.map_some, ne_eq, not_false_eq_true, zfit_0, zfit_1, zfit_12, zkd, ↓reduceIte, zc1_I, zc1_P, zset1, zset2, zclr, List.getElem?_cons_zero, List.getElem?_cons_succ, List.set_cons_zero, List.set_cons_succ, List.length_cons, List.length_nil, List.take_succ_cons, List.take_zero, List.drop_succ_cons, List.drop_zero, List.reverse_cons, List.reverse_nil, List.nil_append, List.cons_append, Option.toList_some, Option.toList_none, Nat.reduceAdd, Nat.reduceSub, Nat.reduceLeDiff, Nat.reduceBEq, Nat.reduceEqDiff, Int.reduceToNat, Bool.or_false, Bool.false_or, Bool.or_true, Bool.true_or, Bool.false_eq_true, if_true, if_false, ite_true, ite_false, and_true, true_and, and_self, reduceCtorEq, Int.reduceLT, Int.reduceLE, Int.reduceNeg, Int.reduceAdd, Int.reduceSub, Int.reduceMul, Nat.le_refl, or_true, true_or, or_self, Int.reduceEq, za_35, zf_96, zf_98, kh_26 k0, kh_26 k1, kh_26 k2, kh_26 k3, b1, b2, b3, b4, b5, b6]
  ((try unfold zr); (try unfold zix); (repeat' first | exact trivial | assumption | (with_reducible rfl) | omega | (refine And.intro ?_ ?_)))
def ynwI (x y cost count : Int) : Int := if cost < x ∨ (cost = x ∧ count ≤ y) then 1 else 0
set_option maxRecDepth 100000 in
theorem c_isNoWorse (k : zKH h F J V P) (i s : Nat) (cost : Int) (hi : i < 12) (hs : i + s ≤ 12) (hc : 0 ≤ cost ∧ cost ≤ 1300) (r1 : 0 ≤ F 27 i ∧ F 27 i ≤ 1000000) (r2 : 0 ≤ F 27 (i + s) ∧ F 27 (i + s) ≤ 1000000) (r3 : 0 ≤ F 28 i ∧ F 28 i ≤ 1000000) (r4 : 0 ≤ F 28 (i + s) ∧ F 28 (i + s) ≤ 1000000) (Q : zQ) : Ca 34 [vR 26, vI i, vI s, vI cost] h Q ↔ Q (some (vI (ynwI (F 27 i) (F 28 i) (cost + F 27 (i + s)) (1 + F 28 (i + s))))) h := by
  refine Ca.iff ?_ Q
  have z1 : atI 13 (F 27) ((i : Int) + s) = F 27 (i + s) := by rw [atI_in (by omega)]; exact congrArg (F 27) (by omega)
  have z2 : atI 13 (F 28) ((i : Int) + s) = F 28 (i + s) := by rw [atI_in (by omega)]; exact congrArg (F 28) (by omega)
  have z3 : atI 13 (F 27) (i : Int) = F 27 i := by rw [atI_in (by omega)]; rfl
  have z4 : atI 13 (F 28) (i : Int) = F 28 i := by rw [atI_in (by omega)]; rfl
  have b1 := c_at (h := h) (i := (i : Int) + s) (kh_27 k) (by omega) (by unfold zr; omega)
  have b2 := c_at (h := h) (i := (i : Int) + s) (kh_28 k) (by omega) (by unfold zr; omega)
  have b3 := c_at (h := h) (i := (i : Int)) (kh_27 k) (by omega) (by unfold zr; omega)
  have b4 := c_at (h := h) (i := (i : Int)) (kh_28 k) (by omega) (by unfold zr; omega)
  rw [z1] at b1
  rw [z2] at b2
  rw [z3] at b3
  rw [z4] at b4
  generalize F 27 i = x at *
  generalize F 28 i = y at *
  generalize F 27 (i + s) = x' at *
  generalize F 28 (i + s) = y' at *
  unfold ynwI
  by_cases c1 : cost + x' < x
  · rw [if_pos (Or.inl c1)]
    rw [ce_34, ← Ge_eq (fun _ => false) 34 _ 400]; simp only [Ge_s, eM_s, zct_0, zct_I, zct_P, zct_J, eX_iconst, eX_ldc2w, eX_iload, eX_lload, eX_aload, eX_istore, eX_lstore, eX_astore, eX_iinc, eX_iadd, eX_isub, eX_imul, eX_idiv, eX_irem, eX_iand, eX_ishl, eX_ishr, eX_ixor, eX_ineg, eX_dupx2, eX_pop2, eX_land, eX_lor, eX_lshl, eX_lushr, eX_lcmp, eX_i2l, eX_l2i, eX_dup, eX_dup2, eX_ifCond, eX_ificmp, eX_goto, eX_ifnonnull, eX_tableswitch, eX_invokeinterface, eX_multianewarray, eX_getstatic, eX_iaload, eX_laload, eX_baload, eX_aaload, eX_iastore, eX_bastore, eX_lastore, eX_aastore, eX_arraylength, eX_new, eX_newarray, eX_anewarray, eX_invokevirtual, eX_invokestatic, eX_invokespecial, eX_pop, eX_invokedynamic, eX_ireturn, eX_freturn, eX_lreturn, eX_return, eI_s, eJ_s, eP_s, eSI_s, eSJ_s, eSP_s, eInc_s, eAdd_s, eSub_s, eMul_s, eDiv_s, eRem_s, eAnd_s, eXor_s, eNeg_s, eIshl_s, eIshr_s, eDx2_s, ePo2_s, zan_31, zan_255, zan_1, zan_15, zan_m, eLand_s, eLor_s, eLshl_s, eLushr_s, eLcmp_s, eI2l_s, eL2i_s, eDup_s, eDup2_s, eIf_s, eIc_s, eBr_eq, eBr_ne, eBr_lt, eBr_ge, eBr_gt, eBr_le, eNn_s, eNn_n, eG3_s, eG2_s, eGf_s, eP2_s, ePf_s, eAI2_s, eAZ2_s, eAJ2_s, eAQ2_s, eAI_s, eAZ_s, eAJ_s, eAQ_s, eXI2_s, eXZ2_s, eXJ2_s, eXQ2_s, eXI_s, eXZ_s, eXJ_s, eXQ_s, eL2_s, eLn_s, eNa_i, eNa_z, eNa_j, eNq_s, eK_s, eK_n, eR2_s, eRv_s, eRi_s, eCv_s, eCs_s, eCi_s, ePop_s, eMx_s, eMn_s, eCp_s, eCp2_i, eCp2_j, eJd_1, eJd_2, eJd_3, eRI_s, eRZ_s, eRJ_s, eRV_s, zsg_s, zsg_n, zsg_c, List.set_set, Option.map_some, ne_eq, not_false_eq_true, zfit_0, zfit_1, zfit_12, zkd, ↓reduceIte, zc1_I, zc1_P, zset1, zset2, zclr, List.getElem?_cons_zero, List.getElem?_cons_succ, List.set_cons_zero, List.set_cons_succ, List.length_cons, List.length_nil, List.take_succ_cons, List.take_zero, List.drop_succ_cons, List.drop_zero, List.reverse_cons, List.reverse_nil, List.nil_append, List.cons_append, Option.toList_some, Option.toList_none, Nat.reduceAdd, Nat.reduceSub, Nat.reduceLeDiff, Nat.reduceBEq, Nat.reduceEqDiff, Int.reduceToNat, Bool.or_false, Bool.false_or, Bool.or_true, Bool.true_or, Bool.false_eq_true, if_true, if_false, ite_true, ite_false, and_true, true_and, and_self, reduceCtorEq, Int.reduceLT, Int.reduceLE, Int.reduceNeg, Int.reduceAdd, Int.reduceSub, Int.reduceMul, Nat.le_refl, or_true, true_or, or_self, Int.reduceEq, za_34, zf_96, kh_26 k, b1, b2, b3, b4, c1]
    ((try unfold zr); (try unfold zix); (repeat' first | exact trivial | assumption | (with_reducible rfl) | omega | (refine And.intro ?_ ?_)))
  · by_cases c2 : cost + x' = x
    · by_cases c3 : y < 1 + y'
      · rw [if_neg (by omega)]
        rw [ce_34, ← Ge_eq (fun _ => false) 34 _ 400]; simp only [Ge_s, eM_s, zct_0, zct_I, zct_P, zct_J, eX_iconst, eX_ldc2w, eX_iload, eX_lload, eX_aload, eX_istore, eX_lstore, eX_astore, eX_iinc, eX_iadd, eX_isub, eX_imul, eX_idiv, eX_irem, eX_iand, eX_ishl, eX_ishr, eX_ixor, eX_ineg, eX_dupx2, eX_pop2, eX_land, eX_lor, eX_lshl, eX_lushr, eX_lcmp, eX_i2l, eX_l2i, eX_dup, eX_dup2, eX_ifCond, eX_ificmp, eX_goto, eX_ifnonnull, eX_tableswitch, eX_invokeinterface, eX_multianewarray, eX_getstatic, eX_iaload, eX_laload, eX_baload, eX_aaload, eX_iastore, eX_bastore, eX_lastore, eX_aastore, eX_arraylength, eX_new, eX_newarray, eX_anewarray, eX_invokevirtual, eX_invokestatic, eX_invokespecial, eX_pop, eX_invokedynamic, eX_ireturn, eX_freturn, eX_lreturn, eX_return, eI_s, eJ_s, eP_s, eSI_s, eSJ_s, eSP_s, eInc_s, eAdd_s, eSub_s, eMul_s, eDiv_s, eRem_s, eAnd_s, eXor_s, eNeg_s, eIshl_s, eIshr_s, eDx2_s, ePo2_s, zan_31, zan_255, zan_1, zan_15, zan_m, eLand_s, eLor_s, eLshl_s, eLushr_s, eLcmp_s, eI2l_s, eL2i_s, eDup_s, eDup2_s, eIf_s, eIc_s, eBr_eq, eBr_ne, eBr_lt, eBr_ge, eBr_gt, eBr_le, eNn_s, eNn_n, eG3_s, eG2_s, eGf_s, eP2_s, ePf_s, eAI2_s, eAZ2_s, eAJ2_s, eAQ2_s, eAI_s, eAZ_s, eAJ_s, eAQ_s, eXI2_s, eXZ2_s, eXJ2_s, eXQ2_s, eXI_s, eXZ_s, eXJ_s, eXQ_s, eL2_s, eLn_s, eNa_i, eNa_z, eNa_j, eNq_s, eK_s, eK_n, eR2_s, eRv_s, eRi_s, eCv_s, eCs_s, eCi_s, ePop_s, eMx_s, eMn_s, eCp_s, eCp2_i, eCp2_j, eJd_1, eJd_2, eJd_3, eRI_s, eRZ_s, eRJ_s, eRV_s, zsg_s, zsg_n, zsg_c, List.set_set, Option.map_some, ne_eq, not_false_eq_true, zfit_0, zfit_1, zfit_12, zkd, ↓reduceIte, zc1_I, zc1_P, zset1, zset2, zclr, List.getElem?_cons_zero, List.getElem?_cons_succ, List.set_cons_zero, List.set_cons_succ, List.length_cons, List.length_nil, List.take_succ_cons, List.take_zero, List.drop_succ_cons, List.drop_zero, List.reverse_cons, List.reverse_nil, List.nil_append, List.cons_append, Option.toList_some, Option.toList_none, Nat.reduceAdd, Nat.reduceSub, Nat.reduceLeDiff, Nat.reduceBEq, Nat.reduceEqDiff, Int.reduceToNat, Bool.or_false, Bool.false_or, Bool.or_true, Bool.true_or, Bool.false_eq_true, if_true, if_false, ite_true, ite_false, and_true, true_and, and_self, reduceCtorEq, Int.reduceLT, Int.reduceLE, Int.reduceNeg, Int.reduceAdd, Int.reduceSub, Int.reduceMul, Nat.le_refl, or_true, true_or, or_self, Int.reduceEq, za_34, zf_96, kh_26 k, b1, b2, b3, b4, c1, eq_true c2, c3]
        ((try unfold zr); (try unfold zix); (repeat' first | exact trivial | assumption | (with_reducible rfl) | omega | (refine And.intro ?_ ?_)))
      · rw [if_pos (by omega)]
        rw [ce_34, ← Ge_eq (fun _ => false) 34 _ 400]; simp only [Ge_s, eM_s, zct_0, zct_I, zct_P, zct_J, eX_iconst, eX_ldc2w, eX_iload, eX_lload, eX_aload, eX_istore, eX_lstore, eX_astore, eX_iinc, eX_iadd, eX_isub, eX_imul, eX_idiv, eX_irem, eX_iand, eX_ishl, eX_ishr, eX_ixor, eX_ineg, eX_dupx2, eX_pop2, eX_land, eX_lor, eX_lshl, eX_lushr, eX_lcmp, eX_i2l, eX_l2i, eX_dup, eX_dup2, eX_ifCond, eX_ificmp, eX_goto, eX_ifnonnull, eX_tableswitch, eX_invokeinterface, eX_multianewarray, eX_getstatic, eX_iaload, eX_laload, eX_baload, eX_aaload, eX_iastore, eX_bastore, eX_lastore, eX_aastore, eX_arraylength, eX_new, eX_newarray, eX_anewarray, eX_invokevirtual, eX_invokestatic, eX_invokespecial, eX_pop, eX_invokedynamic, eX_ireturn, eX_freturn, eX_lreturn, eX_return, eI_s, eJ_s, eP_s, eSI_s, eSJ_s, eSP_s, eInc_s, eAdd_s, eSub_s, eMul_s, eDiv_s, eRem_s, eAnd_s, eXor_s, eNeg_s, eIshl_s, eIshr_s, eDx2_s, ePo2_s, zan_31, zan_255, zan_1, zan_15, zan_m, eLand_s, eLor_s, eLshl_s, eLushr_s, eLcmp_s, eI2l_s, eL2i_s, eDup_s, eDup2_s, eIf_s, eIc_s, eBr_eq, eBr_ne, eBr_lt, eBr_ge, eBr_gt, eBr_le, eNn_s, eNn_n, eG3_s, eG2_s, eGf_s, eP2_s, ePf_s, eAI2_s, eAZ2_s, eAJ2_s, eAQ2_s, eAI_s, eAZ_s, eAJ_s, eAQ_s, eXI2_s, eXZ2_s, eXJ2_s, eXQ2_s, eXI_s, eXZ_s, eXJ_s, eXQ_s, eL2_s, eLn_s, eNa_i, eNa_z, eNa_j, eNq_s, eK_s, eK_n, eR2_s, eRv_s, eRi_s, eCv_s, eCs_s, eCi_s, ePop_s, eMx_s, eMn_s, eCp_s, eCp2_i, eCp2_j, eJd_1, eJd_2, eJd_3, eRI_s, eRZ_s, eRJ_s, eRV_s, zsg_s, zsg_n, zsg_c, List.set_set, Option.map_some, ne_eq, not_false_eq_true, zfit_0, zfit_1, zfit_12, zkd, ↓reduceIte, zc1_I, zc1_P, zset1, zset2, zclr, List.getElem?_cons_zero, List.getElem?_cons_succ, List.set_cons_zero, List.set_cons_succ, List.length_cons, List.length_nil, List.take_succ_cons, List.take_zero, List.drop_succ_cons, List.drop_zero, List.reverse_cons, List.reverse_nil, List.nil_append, List.cons_append, Option.toList_some, Option.toList_none, Nat.reduceAdd, Nat.reduceSub, Nat.reduceLeDiff, Nat.reduceBEq, Nat.reduceEqDiff, Int.reduceToNat, Bool.or_false, Bool.false_or, Bool.or_true, Bool.true_or, Bool.false_eq_true, if_true, if_false, ite_true, ite_false, and_true, true_and, and_self, reduceCtorEq, Int.reduceLT, Int.reduceLE, Int.reduceNeg, Int.reduceAdd, Int.reduceSub, Int.reduceMul, Nat.le_refl, or_true, true_or, or_self, Int.reduceEq, za_34, zf_96, kh_26 k, b1, b2, b3, b4, c1, eq_true c2, c3]
        ((try unfold zr); (try unfold zix); (repeat' first | exact trivial | assumption | (with_reducible rfl) | omega | (refine And.intro ?_ ?_)))
    · rw [if_neg (by omega)]
      rw [ce_34, ← Ge_eq (fun _ => false) 34 _ 400]; simp only [Ge_s, eM_s, zct_0, zct_I, zct_P, zct_J, eX_iconst, eX_ldc2w, eX_iload, eX_lload, eX_aload, eX_istore, eX_lstore, eX_astore, eX_iinc, eX_iadd, eX_isub, eX_imul, eX_idiv, eX_irem, eX_iand, eX_ishl, eX_ishr, eX_ixor, eX_ineg, eX_dupx2, eX_pop2, eX_land, eX_lor, eX_lshl, eX_lushr, eX_lcmp, eX_i2l, eX_l2i, eX_dup, eX_dup2, eX_ifCond, eX_ificmp, eX_goto, eX_ifnonnull, eX_tableswitch, eX_invokeinterface, eX_multianewarray, eX_getstatic, eX_iaload, eX_laload, eX_baload, eX_aaload, eX_iastore, eX_bastore, eX_lastore, eX_aastore, eX_arraylength, eX_new, eX_newarray, eX_anewarray, eX_invokevirtual, eX_invokestatic, eX_invokespecial, eX_pop, eX_invokedynamic, eX_ireturn, eX_freturn, eX_lreturn, eX_return, eI_s, eJ_s, eP_s, eSI_s, eSJ_s, eSP_s, eInc_s, eAdd_s, eSub_s, eMul_s, eDiv_s, eRem_s, eAnd_s, eXor_s, eNeg_s, eIshl_s, eIshr_s, eDx2_s, ePo2_s, zan_31, zan_255, zan_1, zan_15, zan_m, eLand_s, eLor_s, eLshl_s, eLushr_s, eLcmp_s, eI2l_s, eL2i_s, eDup_s, eDup2_s, eIf_s, eIc_s, eBr_eq, eBr_ne, eBr_lt, eBr_ge, eBr_gt, eBr_le, eNn_s, eNn_n, eG3_s, eG2_s, eGf_s, eP2_s, ePf_s, eAI2_s, eAZ2_s, eAJ2_s, eAQ2_s, eAI_s, eAZ_s, eAJ_s, eAQ_s, eXI2_s, eXZ2_s, eXJ2_s, eXQ2_s, eXI_s, eXZ_s, eXJ_s, eXQ_s, eL2_s, eLn_s, eNa_i, eNa_z, eNa_j, eNq_s, eK_s, eK_n, eR2_s, eRv_s, eRi_s, eCv_s, eCs_s, eCi_s, ePop_s, eMx_s, eMn_s, eCp_s, eCp2_i, eCp2_j, eJd_1, eJd_2, eJd_3, eRI_s, eRZ_s, eRJ_s, eRV_s, zsg_s, zsg_n, zsg_c, List.set_set, Option.map_some, ne_eq, not_false_eq_true, zfit_0, zfit_1, zfit_12, zkd, ↓reduceIte, zc1_I, zc1_P, zset1, zset2, zclr, List.getElem?_cons_zero, List.getElem?_cons_succ, List.set_cons_zero, List.set_cons_succ, List.length_cons, List.length_nil, List.take_succ_cons, List.take_zero, List.drop_succ_cons, List.drop_zero, List.reverse_cons, List.reverse_nil, List.nil_append, List.cons_append, Option.toList_some, Option.toList_none, Nat.reduceAdd, Nat.reduceSub, Nat.reduceLeDiff, Nat.reduceBEq, Nat.reduceEqDiff, Int.reduceToNat, Bool.or_false, Bool.false_or, Bool.or_true, Bool.true_or, Bool.false_eq_true, if_true, if_false, ite_true, ite_false, and_true, true_and, and_self, reduceCtorEq, Int.reduceLT, Int.reduceLE, Int.reduceNeg, Int.reduceAdd, Int.reduceSub, Int.reduceMul, Nat.le_refl, or_true, true_or, or_self, Int.reduceEq, za_34, zf_96, kh_26 k, b1, b2, b3, b4, c1, c2]
      ((try unfold zr); (try unfold zix); (repeat' first | exact trivial | assumption | (with_reducible rfl) | omega | (refine And.intro ?_ ?_)))
set_option maxRecDepth 100000 in
theorem c_hasLike_l {a b : Nat} {l : Int} {g : Nat → Nat} (ha : h[a]? = some (oO 8 [vR b, vI l])) (hg : h[b]? = some (aJ 12 g)) (hm : rm l g ms) (i o s : Nat) (hi : i + s ≤ ms.length) (ho : o + s ≤ ms.length) : ∀ (d j : Nat), j + d = s → Go 59 3 [vR a, vI i, vI o, vI s, vI j] [] h (fun r h' => r = some (vI (if yal (fun j => decide (ypk (ms.getD (i + j) []) = ypk (ms.getD (o + j) []))) j d = true then 1 else 0)) ∧ h' = h) := by
  intro d
  have m12 := hm.1.2
  induction d with
  | zero =>
    intro j hj
    obtain rfl : j = s := by omega
    refine Go_on (fun _ => false) 400 ?_; simp only [Ge_s, eM_s, zct_0, zct_I, zct_P, zct_J, eX_iconst, eX_ldc2w, eX_iload, eX_lload, eX_aload, eX_istore, eX_lstore, eX_astore, eX_iinc, eX_iadd, eX_isub, eX_imul, eX_idiv, eX_irem, eX_iand, eX_ishl, eX_ishr, eX_ixor, eX_ineg, eX_dupx2, eX_pop2, eX_land, eX_lor, eX_lshl, eX_lushr, eX_lcmp, eX_i2l, eX_l2i, eX_dup, eX_dup2, eX_ifCond, eX_ificmp, eX_goto, eX_ifnonnull, eX_tableswitch, eX_invokeinterface, eX_multianewarray, eX_getstatic, eX_iaload, eX_laload, eX_baload, eX_aaload, eX_iastore, eX_bastore, eX_lastore, eX_aastore, eX_arraylength, eX_new, eX_newarray, eX_anewarray, eX_invokevirtual, eX_invokestatic, eX_invokespecial, eX_pop, eX_invokedynamic, eX_ireturn, eX_freturn, eX_lreturn, eX_return, eI_s, eJ_s, eP_s, eSI_s, eSJ_s, eSP_s, eInc_s, eAdd_s, eSub_s, eMul_s, eDiv_s, eRem_s, eAnd_s, eXor_s, eNeg_s, eIshl_s, eIshr_s, eDx2_s, ePo2_s, zan_31, zan_255, zan_1, zan_15, zan_m, eLand_s, eLor_s, eLshl_s, eLushr_s, eLcmp_s, eI2l_s, eL2i_s, eDup_s, eDup2_s, eIf_s, eIc_s, eBr_eq, eBr_ne, eBr_lt, eBr_ge, eBr_gt, eBr_le, eNn_s, eNn_n, eG3_s, eG2_s, eGf_s, eP2_s, ePf_s, eAI2_s, eAZ2_s, eAJ2_s, eAQ2_s, eAI_s, eAZ_s, eAJ_s, eAQ_s, eXI2_s, eXZ2_s, eXJ2_s, eXQ2_s, eXI_s, eXZ_s, eXJ_s, eXQ_s, eL2_s, eLn_s, eNa_i, eNa_z, eNa_j, eNq_s, eK_s, eK_n, eR2_s, eRv_s, eRi_s, eCv_s, eCs_s, eCi_s, ePop_s, eMx_s, eMn_s, eCp_s, eCp2_i, eCp2_j, eJd_1, eJd_2, eJd_3, eRI_s, eRZ_s, eRJ_s, eRV_s, zsg_s, zsg_n, zsg_c, List.set_set, Option.map_some, ne_eq, not_false_eq_true, zfit_0, zfit_1, zfit_12, zkd, ↓reduceIte, zc1_I, zc1_P, zset1, zset2, zclr, List.getElem?_cons_zero, List.getElem?_cons_succ, List.set_cons_zero, List.set_cons_succ, List.length_cons, List.length_nil, List.take_succ_cons, List.take_zero, List.drop_succ_cons, List.drop_zero, List.reverse_cons, List.reverse_nil, List.nil_append, List.cons_append, Option.toList_some, Option.toList_none, Nat.reduceAdd, Nat.reduceSub, Nat.reduceLeDiff, Nat.reduceBEq, Nat.reduceEqDiff, Int.reduceToNat, Bool.or_false, Bool.false_or, Bool.or_true, Bool.true_or, Bool.false_eq_true, if_true, if_false, ite_true, ite_false, and_true, true_and, and_self, reduceCtorEq, Int.reduceLT, Int.reduceLE, Int.reduceNeg, Int.reduceAdd, Int.reduceSub, Int.reduceMul, Nat.le_refl, or_true, true_or, or_self, Int.reduceEq, za_59, Int.lt_irrefl, yal]
    ((try unfold zr); (try unfold zix); (repeat' first | exact trivial | assumption | (with_reducible rfl) | omega | (refine And.intro ?_ ?_)))
  | succ d ih =>
    intro j hj
    have e1 : (j : Int) < s := by omega
    have b1 := c_wordAt ha hg hm ((i : Int) + j) (by unfold zr; omega)
    have b2 := c_wordAt ha hg hm ((o : Int) + j) (by unfold zr; omega)
    have e7 : ywd ms ((i : Int) + j) = ms.getD (i + j) [] := ywd_nat ms (i + j)
    have e8 : ywd ms ((o : Int) + j) = ms.getD (o + j) [] := ywd_nat ms (o + j)
    have w1 := rm_w hm (i + j)
    have w2 := rm_w hm (o + j)
    have e5 := y_w64 w1.1 w1.2
    have e6 := y_w64 w2.1 w2.2
    rw [e7] at b1
    rw [e8] at b2
    have e3 : yal (fun j => decide (ypk (ms.getD (i + j) []) = ypk (ms.getD (o + j) []))) j (d + 1) = if decide (ypk (ms.getD (i + j) []) = ypk (ms.getD (o + j) [])) = true then yal (fun j => decide (ypk (ms.getD (i + j) []) = ypk (ms.getD (o + j) []))) (j + 1) d else false := rfl
    rw [e3]
    have c3 := ih (j + 1) (by omega)
    by_cases c : ypk (ms.getD (i + j) []) = ypk (ms.getD (o + j) [])
    · rw [if_pos (decide_eq_true_iff.2 c)]
      refine Go_on (fun p => p == 3) 400 ?_; simp only [Ge_s, eM_s, zct_0, zct_I, zct_P, zct_J, eX_iconst, eX_ldc2w, eX_iload, eX_lload, eX_aload, eX_istore, eX_lstore, eX_astore, eX_iinc, eX_iadd, eX_isub, eX_imul, eX_idiv, eX_irem, eX_iand, eX_ishl, eX_ishr, eX_ixor, eX_ineg, eX_dupx2, eX_pop2, eX_land, eX_lor, eX_lshl, eX_lushr, eX_lcmp, eX_i2l, eX_l2i, eX_dup, eX_dup2, eX_ifCond, eX_ificmp, eX_goto, eX_ifnonnull, eX_tableswitch, eX_invokeinterface, eX_multianewarray, eX_getstatic, eX_iaload, eX_laload, eX_baload, eX_aaload, eX_iastore, eX_bastore, eX_lastore, eX_aastore, eX_arraylength, eX_new, eX_newarray, eX_anewarray, eX_invokevirtual, eX_invokestatic, eX_invokespecial, eX_pop, eX_invokedynamic, eX_ireturn, eX_freturn, eX_lreturn, eX_return, eI_s, eJ_s, eP_s, eSI_s, eSJ_s, eSP_s, eInc_s, eAdd_s, eSub_s, eMul_s, eDiv_s, eRem_s, eAnd_s, eXor_s, eNeg_s, eIshl_s, eIshr_s, eDx2_s, ePo2_s, zan_31, zan_255, zan_1, zan_15, zan_m, eLand_s, eLor_s, eLshl_s, eLushr_s, eLcmp_s, eI2l_s, eL2i_s, eDup_s, eDup2_s, eIf_s, eIc_s, eBr_eq, eBr_ne, eBr_lt, eBr_ge, eBr_gt, eBr_le, eNn_s, eNn_n, eG3_s, eG2_s, eGf_s, eP2_s, ePf_s, eAI2_s, eAZ2_s, eAJ2_s, eAQ2_s, eAI_s, eAZ_s, eAJ_s, eAQ_s, eXI2_s, eXZ2_s, eXJ2_s, eXQ2_s, eXI_s, eXZ_s, eXJ_s, eXQ_s, eL2_s, eLn_s, eNa_i, eNa_z, eNa_j, eNq_s, eK_s, eK_n, eR2_s, eRv_s, eRi_s, eCv_s, eCs_s, eCi_s, ePop_s, eMx_s, eMn_s, eCp_s, eCp2_i, eCp2_j, eJd_1, eJd_2, eJd_3, eRI_s, eRZ_s, eRJ_s, eRV_s, zsg_s, zsg_n, zsg_c, List.set_set, Option.map_some, ne_eq, not_false_eq_true, zfit_0, zfit_1, zfit_12, zkd, ↓reduceIte, zc1_I, zc1_P, zset1, zset2, zclr, List.getElem?_cons_zero, List.getElem?_cons_succ, List.set_cons_zero, List.set_cons_succ, List.length_cons, List.length_nil, List.take_succ_cons, List.take_zero, List.drop_succ_cons, List.drop_zero, List.reverse_cons, List.reverse_nil, List.nil_append, List.cons_append, Option.toList_some, Option.toList_none, Nat.reduceAdd, Nat.reduceSub, Nat.reduceLeDiff, Nat.reduceBEq, Nat.reduceEqDiff, Int.reduceToNat, Bool.or_false, Bool.false_or, Bool.or_true, Bool.true_or, Bool.false_eq_true, if_true, if_false, ite_true, ite_false, and_true, true_and, and_self, reduceCtorEq, Int.reduceLT, Int.reduceLE, Int.reduceNeg, Int.reduceAdd, Int.reduceSub, Int.reduceMul, Nat.le_refl, or_true, true_or, or_self, Int.reduceEq, za_59, zf_56, ha, e1, b1, b2, y_lc, y_lcr, e5, e6, eq_true c]
      ((try unfold zr); (try unfold zix); (repeat' first | exact trivial | assumption | (with_reducible rfl) | omega | (refine And.intro ?_ ?_)))
    · rw [if_neg (fun x => c (decide_eq_true_iff.1 x))]
      refine Go_on (fun p => p == 3) 400 ?_; simp only [Ge_s, eM_s, zct_0, zct_I, zct_P, zct_J, eX_iconst, eX_ldc2w, eX_iload, eX_lload, eX_aload, eX_istore, eX_lstore, eX_astore, eX_iinc, eX_iadd, eX_isub, eX_imul, eX_idiv, eX_irem, eX_iand, eX_ishl, eX_ishr, eX_ixor, eX_ineg, eX_dupx2, eX_pop2, eX_land, eX_lor, eX_lshl, eX_lushr, eX_lcmp, eX_i2l, eX_l2i, eX_dup, eX_dup2, eX_ifCond, eX_ificmp, eX_goto, eX_ifnonnull, eX_tableswitch, eX_invokeinterface, eX_multianewarray, eX_getstatic, eX_iaload, eX_laload, eX_baload, eX_aaload, eX_iastore, eX_bastore, eX_lastore, eX_aastore, eX_arraylength, eX_new, eX_newarray, eX_anewarray, eX_invokevirtual, eX_invokestatic, eX_invokespecial, eX_pop, eX_invokedynamic, eX_ireturn, eX_freturn, eX_lreturn, eX_return, eI_s, eJ_s, eP_s, eSI_s, eSJ_s, eSP_s, eInc_s, eAdd_s, eSub_s, eMul_s, eDiv_s, eRem_s, eAnd_s, eXor_s, eNeg_s, eIshl_s, eIshr_s, eDx2_s, ePo2_s, zan_31, zan_255, zan_1, zan_15, zan_m, eLand_s, eLor_s, eLshl_s, eLushr_s, eLcmp_s, eI2l_s, eL2i_s, eDup_s, eDup2_s, eIf_s, eIc_s, eBr_eq, eBr_ne, eBr_lt, eBr_ge, eBr_gt, eBr_le, eNn_s, eNn_n, eG3_s, eG2_s, eGf_s, eP2_s, ePf_s, eAI2_s, eAZ2_s, eAJ2_s, eAQ2_s, eAI_s, eAZ_s, eAJ_s, eAQ_s, eXI2_s, eXZ2_s, eXJ2_s, eXQ2_s, eXI_s, eXZ_s, eXJ_s, eXQ_s, eL2_s, eLn_s, eNa_i, eNa_z, eNa_j, eNq_s, eK_s, eK_n, eR2_s, eRv_s, eRi_s, eCv_s, eCs_s, eCi_s, ePop_s, eMx_s, eMn_s, eCp_s, eCp2_i, eCp2_j, eJd_1, eJd_2, eJd_3, eRI_s, eRZ_s, eRJ_s, eRV_s, zsg_s, zsg_n, zsg_c, List.set_set, Option.map_some, ne_eq, not_false_eq_true, zfit_0, zfit_1, zfit_12, zkd, ↓reduceIte, zc1_I, zc1_P, zset1, zset2, zclr, List.getElem?_cons_zero, List.getElem?_cons_succ, List.set_cons_zero, List.set_cons_succ, List.length_cons, List.length_nil, List.take_succ_cons, List.take_zero, List.drop_succ_cons, List.drop_zero, List.reverse_cons, List.reverse_nil, List.nil_append, List.cons_append, Option.toList_some, Option.toList_none, Nat.reduceAdd, Nat.reduceSub, Nat.reduceLeDiff, Nat.reduceBEq, Nat.reduceEqDiff, Int.reduceToNat, Bool.or_false, Bool.false_or, Bool.or_true, Bool.true_or, Bool.false_eq_true, if_true, if_false, ite_true, ite_false, and_true, true_and, and_self, reduceCtorEq, Int.reduceLT, Int.reduceLE, Int.reduceNeg, Int.reduceAdd, Int.reduceSub, Int.reduceMul, Nat.le_refl, or_true, true_or, or_self, Int.reduceEq, za_59, zf_56, ha, e1, b1, b2, y_lc, y_lcr, e5, e6, c]
      ((try unfold zr); (try unfold zix); (repeat' first | exact trivial | assumption | (with_reducible rfl) | omega | (refine And.intro ?_ ?_)))
set_option maxRecDepth 100000 in
theorem c_hasLike {a b : Nat} {l : Int} {g : Nat → Nat} (ha : h[a]? = some (oO 8 [vR b, vI l])) (hg : h[b]? = some (aJ 12 g)) (hm : rm l g ms) (i o s : Nat) (hi : i + s ≤ ms.length) (ho : o + s ≤ ms.length) (hs : s ≤ 3) (Q : zQ) : Ca 59 [vR a, vI i, vI o, vI s] h Q ↔ Q (some (vI (yeq (ysub ms i s) (ysub ms o s)))) h := by
  refine Ca.iff ?_ Q
  have c3 := c_hasLike_l ha hg hm i o s hi ho s 0 (by omega)
  have e1 : (if yal (fun j => decide (ypk (ms.getD (i + j) []) = ypk (ms.getD (o + j) []))) 0 s = true then 1 else 0) = yeq (ysub ms i s) (ysub ms o s) := by
    have hiff : yal (fun j => decide (ypk (ms.getD (i + j) []) = ypk (ms.getD (o + j) []))) 0 s = true ↔ ysub ms i s = ysub ms o s := by
      rw [yal_iff]
      constructor
      · intro hx
        refine yF_ext (yokF_sub hm.2.1 _ _) (yokF_sub hm.2.1 _ _) (Nat.le_trans (ysub_len _ _ _) hs) (Nat.le_trans (ysub_len _ _ _) hs) fun j hj => ?_
        rw [ysub_get, ysub_get]
        by_cases x : j < s
        · rw [if_pos x, if_pos x]
          exact ypk_inj _ _ (rm_w hm _).1 (rm_w hm _).1 (decide_eq_true_iff.1 (hx j (by omega) (by omega)))
        · rw [if_neg x, if_neg x]
      · intro hx j _ hj
        refine decide_eq_true_iff.2 ?_
        have e3 := ysub_get ms i s j
        have e4 := ysub_get ms o s j
        rw [if_pos (by omega)] at e3 e4
        rw [← e3, ← e4, hx]
    unfold yeq
    by_cases x : ysub ms i s = ysub ms o s
    · rw [if_pos x, if_pos (hiff.2 x)]
    · rw [if_neg x, if_neg (fun y => x (hiff.1 y))]
  rw [e1] at c3
  rw [ce_59, ← Ge_eq (fun p => p == 3) 59 _ 400]; simp only [Ge_s, eM_s, zct_0, zct_I, zct_P, zct_J, eX_iconst, eX_ldc2w, eX_iload, eX_lload, eX_aload, eX_istore, eX_lstore, eX_astore, eX_iinc, eX_iadd, eX_isub, eX_imul, eX_idiv, eX_irem, eX_iand, eX_ishl, eX_ishr, eX_ixor, eX_ineg, eX_dupx2, eX_pop2, eX_land, eX_lor, eX_lshl, eX_lushr, eX_lcmp, eX_i2l, eX_l2i, eX_dup, eX_dup2, eX_ifCond, eX_ificmp, eX_goto, eX_ifnonnull, eX_tableswitch, eX_invokeinterface, eX_multianewarray, eX_getstatic, eX_iaload, eX_laload, eX_baload, eX_aaload, eX_iastore, eX_bastore, eX_lastore, eX_aastore, eX_arraylength, eX_new, eX_newarray, eX_anewarray, eX_invokevirtual, eX_invokestatic, eX_invokespecial, eX_pop, eX_invokedynamic, eX_ireturn, eX_freturn, eX_lreturn, eX_return, eI_s, eJ_s, eP_s, eSI_s, eSJ_s, eSP_s, eInc_s, eAdd_s, eSub_s, eMul_s, eDiv_s, eRem_s, eAnd_s, eXor_s, eNeg_s, eIshl_s, eIshr_s, eDx2_s, ePo2_s, zan_31, zan_255, zan_1, zan_15, zan_m, eLand_s, eLor_s, eLshl_s, eLushr_s, eLcmp_s, eI2l_s, eL2i_s, eDup_s, eDup2_s, eIf_s, eIc_s, eBr_eq, eBr_ne, eBr_lt, eBr_ge, eBr_gt, eBr_le, eNn_s, eNn_n, eG3_s, eG2_s, eGf_s, eP2_s, ePf_s, eAI2_s, eAZ2_s, eAJ2_s, eAQ2_s, eAI_s, eAZ_s, eAJ_s, eAQ_s, eXI2_s, eXZ2_s, eXJ2_s, eXQ2_s, eXI_s, eXZ_s, eXJ_s, eXQ_s, eL2_s, eLn_s, eNa_i, eNa_z, eNa_j, eNq_s, eK_s, eK_n, eR2_s, eRv_s, eRi_s, eCv_s, eCs_s, eCi_s, ePop_s, eMx_s, eMn_s, eCp_s, eCp2_i, eCp2_j, eJd_1, eJd_2, eJd_3, eRI_s, eRZ_s, eRJ_s, eRV_s, zsg_s, zsg_n, zsg_c, List.set_set, Option.map_some, ne_eq, not_false_eq_true, zfit_0, zfit_1, zfit_12, zkd, ↓reduceIte, zc1_I, zc1_P, zset1, zset2, zclr, List.getElem?_cons_zero, List.getElem?_cons_succ, List.set_cons_zero, List.set_cons_succ, List.length_cons, List.length_nil, List.take_succ_cons, List.take_zero, List.drop_succ_cons, List.drop_zero, List.reverse_cons, List.reverse_nil, List.nil_append, List.cons_append, Option.toList_some, Option.toList_none, Nat.reduceAdd, Nat.reduceSub, Nat.reduceLeDiff, Nat.reduceBEq, Nat.reduceEqDiff, Int.reduceToNat, Bool.or_false, Bool.false_or, Bool.or_true, Bool.true_or, Bool.false_eq_true, if_true, if_false, ite_true, ite_false, and_true, true_and, and_self, reduceCtorEq, Int.reduceLT, Int.reduceLE, Int.reduceNeg, Int.reduceAdd, Int.reduceSub, Int.reduceMul, Nat.le_refl, or_true, true_or, or_self, Int.reduceEq, za_59]
  exact c3
end
