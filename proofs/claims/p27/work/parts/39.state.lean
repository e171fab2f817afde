/-! A state of the class: what it means -/
abbrev yS : Type := (Int × Int × Int) × yB × yF × List yT
abbrev sco (S : yS) : Int := S.1.1
abbrev swi (S : yS) : Int := S.1.2.1
abbrev sap (S : yS) : Int := S.1.2.2
abbrev sbk (S : yS) : yB := S.2.1
abbrev sms (S : yS) : yF := S.2.2.1
abbrev ssn (S : yS) : List yT := S.2.2.2
/-- no two entries have the same phrase, or the same code word -/
def oB (bk : yB) : Prop := ∀ i j, i < j → j < bk.length → bph bk i ≠ bph bk j ∧ bcd bk i ≠ bcd bk j
def rS (F : Nat → Nat → Int) (J : Nat → Nat → Nat) (V : Nat → Int) (S : yS) : Prop := rs (F 5) (sco S) (swi S) (sap S) ∧ rb (V 0) (F 7) (J 8) (sbk S) ∧ rm (V 2) (J 11) (sms S) ∧ rT F V (sms S).length (ssn S) ∧ rl (F 17) (F 18) ∧ oB (sbk S)
def ySm (F : Nat → Nat → Int) (J : Nat → Nat → Nat) (V : Nat → Int) (F1 : Nat → Nat → Int) (J1 : Nat → Nat → Nat) (V1 : Nat → Int) : Prop :=
  (V1 0 = V 0 ∧ V1 1 = V 1 ∧ V1 2 = V 2) ∧ (∀ t, t < 3 → F1 5 t = F 5 t) ∧ (∀ t, t < 16 → F1 7 t = F 7 t) ∧ (∀ t, t < 48 → J1 8 t = J 8 t) ∧ (∀ t, t < 12 → J1 11 t = J 11 t) ∧ (∀ t, t < 12 → F1 12 t = F 12 t ∧ F1 13 t = F 13 t ∧ F1 14 t = F 14 t ∧ F1 15 t = F 15 t ∧ F1 16 t = F 16 t) ∧ ∀ t, t < 156 → F1 17 t = F 17 t ∧ F1 18 t = F 18 t
set_option maxRecDepth 100000 in
theorem rS_cg {F F1 : Nat → Nat → Int} {J J1 : Nat → Nat → Nat} {V V1 : Nat → Int} {S : yS} (e : ySm F J V F1 J1 V1) (r : rS F J V S) : rS F1 J1 V1 S := by
  obtain ⟨⟨e0, e1, e2⟩, e5, e7, e8, e11, e12, e17⟩ := e
  obtain ⟨r1, r2, r3, r4, r5, r6⟩ := r
  refine ⟨?_, ?_, ?_, ?_, ?_, r6⟩
  · unfold rs at *
    rw [e5 0 (by omega), e5 1 (by omega), e5 2 (by omega)]
    exact r1
  · unfold rb at *
    rw [e0]
    refine ⟨r2.1, fun i hi => ?_⟩
    have q := r2.2 i hi
    have l := r2.1.2
    refine ⟨?_, q.2.1, fun j hj => ?_⟩
    · rw [e7 i (by omega)]; exact q.1
    · rw [e8 _ (by omega)]; exact q.2.2 j hj
  · unfold rm at *
    rw [e2]
    refine ⟨r3.1, r3.2.1, fun i hi => ?_⟩
    have l := r3.1.2
    rw [e11 i (by omega)]
    exact r3.2.2 i hi
  · unfold rT rt at *
    rw [e1]
    refine ⟨r4.1, fun i hi => ?_⟩
    have l := r4.1.2
    have q := r4.2 i hi
    have e := e12 i (by omega)
    refine ⟨q.1, ?_, fun j hj => ?_⟩
    · rw [e.1, e.2.1, e.2.2.1, e.2.2.2.1, e.2.2.2.2]; exact q.2.1
    · have l2 := q.1.2.1.2
      have e3 := e17 (13 * i + j) (by omega)
      rw [e3.1, e3.2]
      exact q.2.2 j hj
  · intro j hj
    have e3 := e17 j hj
    rw [e3.1, e3.2]
    exact r5 j hj
set_option maxRecDepth 100000 in
theorem y_cp {A : Type} {f g : Nat → A} {n t : Nat} (h : t < n) : va_cpy f g 0 0 n t = f t := by
  unfold va_cpy
  rw [if_pos (by omega)]
  exact congrArg f (by omega)
section
variable {h : zH} {F F1 : Nat → Nat → Int} {J J1 : Nat → Nat → Nat} {V V1 : Nat → Int} {P : Nat → Nat → Option Nat} {d : Nat} {S : yS}
/-- what lies outside a state's cells is as it was -/
def yun (F : Nat → Nat → Int) (J : Nat → Nat → Nat) (V : Nat → Int) (F2 : Nat → Nat → Int) (J2 : Nat → Nat → Nat) (V2 : Nat → Int) : Prop := (∀ t, 19 ≤ t → F2 t = F t) ∧ (∀ t, 19 ≤ t → J2 t = J t) ∧ ∀ t, 3 ≤ t → V2 t = V t
set_option maxRecDepth 100000 in
theorem uF_out {F : Nat → Nat → Int} {k t : Nat} {f : Nat → Int} (ht : t ≠ k) : uF F k f t = F t := by
  unfold uF
  have e : Nat.beq t k = false := by
    cases e : Nat.beq t k with
    | false => rfl
    | true => exact absurd (Nat.eq_of_beq_eq_true e) ht
  rw [e]; rfl
set_option maxRecDepth 100000 in
theorem uJ_out {F : Nat → Nat → Nat} {k t : Nat} {f : Nat → Nat} (ht : t ≠ k) : uJ F k f t = F t := by
  unfold uJ
  have e : Nat.beq t k = false := by
    cases e : Nat.beq t k with
    | false => rfl
    | true => exact absurd (Nat.eq_of_beq_eq_true e) ht
  rw [e]; rfl
set_option maxRecDepth 100000 in
theorem uV_out {F : Nat → Int} {k t : Nat} {f : Int} (ht : t ≠ k) : uV F k f t = F t := by
  unfold uV
  have e : Nat.beq t k = false := by
    cases e : Nat.beq t k with
    | false => rfl
    | true => exact absurd (Nat.eq_of_beq_eq_true e) ht
  rw [e]; rfl
set_option maxRecDepth 100000 in
theorem c_stNow (k : zKH h F J V P) (b : zBk h d F1 J1 V1) (r : rS F1 J1 V1 S) (Q : zQ) (hQ : ∀ h2 F2 J2 V2, zKH h2 F2 J2 V2 P → rS F2 J2 V2 S → yun F J V F2 J2 V2 → (∀ t, t < 4 ∨ 19 ≤ t → h2[t]? = h[t]?) → h2.length = h.length → Q none h2) : Ca 43 [vR 4, vR (d + 39)] h Q := by
  rw [c_cp43a k b]
  refine hQ _ _ _ _ (ks_9 (ks_18 (ks_17 (ks_16 (ks_15 (ks_14 (ks_13 (ks_12 (ks_10 (ks_11 (ks_6 (ks_8 (ks_7 (ks_5 k _) _) _) _) _) _) _) _) _) _) _) _) _) _) ?_ ?_ ?_ ?_
  · refine rS_cg ⟨⟨rfl, rfl, rfl⟩, fun t ht => y_cp ht, fun t ht => y_cp ht, fun t ht => y_cp ht, fun t ht => y_cp ht, fun t ht => ⟨y_cp ht, y_cp ht, y_cp ht, y_cp ht, y_cp ht⟩, fun t ht => ⟨y_cp ht, y_cp ht⟩⟩ r
  · refine ⟨fun t ht => ?_, fun t ht => ?_, fun t ht => ?_⟩
    · rw [uF_out (by omega), uF_out (by omega), uF_out (by omega), uF_out (by omega), uF_out (by omega), uF_out (by omega), uF_out (by omega), uF_out (by omega), uF_out (by omega)]
    · rw [uJ_out (by omega), uJ_out (by omega)]
    · rw [uV_out (by omega), uV_out (by omega), uV_out (by omega)]
  · intro t ht
    rw [zsg_n (by omega), zsg_n (by omega), zsg_n (by omega), zsg_n (by omega), zsg_n (by omega), zsg_n (by omega), zsg_n (by omega), zsg_n (by omega), zsg_n (by omega), zsg_n (by omega), zsg_n (by omega), zsg_n (by omega), zsg_n (by omega), zsg_n (by omega)]
  · simp only [List.length_set]
set_option maxRecDepth 100000 in
theorem c_stBlk (k : zKH h F J V P) (b : zBk h d F1 J1 V1) (r : rS F J V S) (Q : zQ) (hQ : ∀ h2 F2 J2 V2, zBk h2 d F2 J2 V2 → rS F2 J2 V2 S → (∀ t, t < d + 39 ∨ d + 54 ≤ t → h2[t]? = h[t]?) → h2.length = h.length → Q none h2) : Ca 43 [vR (d + 39), vR 4] h Q := by
  rw [c_cp43n k b]
  refine hQ _ _ _ _ (bks_9 (bks_18 (bks_17 (bks_16 (bks_15 (bks_14 (bks_13 (bks_12 (bks_10 (bks_11 (bks_6 (bks_8 (bks_7 (bks_5 b _) _) _) _) _) _) _) _) _) _) _) _) _) _) ?_ ?_ ?_
  · refine rS_cg ⟨⟨rfl, rfl, rfl⟩, fun t ht => y_cp ht, fun t ht => y_cp ht, fun t ht => y_cp ht, fun t ht => y_cp ht, fun t ht => ⟨y_cp ht, y_cp ht, y_cp ht, y_cp ht, y_cp ht⟩, fun t ht => ⟨y_cp ht, y_cp ht⟩⟩ r
  · intro t ht
    rw [zsg_n (by omega), zsg_n (by omega), zsg_n (by omega), zsg_n (by omega), zsg_n (by omega), zsg_n (by omega), zsg_n (by omega), zsg_n (by omega), zsg_n (by omega), zsg_n (by omega), zsg_n (by omega), zsg_n (by omega), zsg_n (by omega), zsg_n (by omega)]
  · simp only [List.length_set]
end
