/-! The law and the class side by side -/
def yro (h : zH) (L : Nat) (xs : Nat → Int32) : Prop := h[0]? = some (aI 3 zlowf) ∧ h[1]? = some (aI 3 zhif) ∧ h[2]? = some (aI L fun j => (xs j).toInt)
set_option maxRecDepth 100000 in
theorem Ca_ro {h : zH} {L : Nat} {xs : Nat → Int32} (ro : yro h L xs) {m : Nat} {as : List zV} {Q : zQ} (c : Ca m as h Q) : Ca m as h (fun r h2 => yro h2 L xs ∧ Q r h2) := by
  obtain ⟨hl, n, r, h', e1, e2⟩ := c
  refine ⟨hl, n, r, h', e1, ?_, e2⟩
  let G : zG := ((fun _ => 0, fun _ _ => 0), (0, 0, 0, 0, L), (0, 0, 0, 0), xs)
  exact (zrun_grow (G := G) _ _ _ _ _ _ _ e1).2.2 ro
set_option maxRecDepth 100000 in
theorem yro_fr {h h2 : zH} {L : Nat} {xs : Nat → Int32} (ro : yro h L xs) (e : ∀ t, t < 3 → h2[t]? = h[t]?) : yro h2 L xs := ⟨(e 0 (by omega)).trans ro.1, (e 1 (by omega)).trans ro.2.1, (e 2 (by omega)).trans ro.2.2⟩
def Wd (L : Nat) (xs : Nat → Int32) (A : yA) (q en me se : Nat → Int) (h : zH) : Prop := yro h L xs ∧ ∃ F J V P, zKH h F J V P ∧ CR h F J V P A ∧ F 34 = q ∧ F 35 = en ∧ F 36 = me ∧ F 37 = se
-- what the law keeps is what the class keeps
def LI (A : yA) (q en me se : Nat → Int) : Prop := (lq q (sco (aS A)) (swi (aS A)) (sap (aS A)) (sbk (aS A)).length (sms (aS A)).length ∧ q 5 = ((ssn (aS A)).length : Nat) ∧ q 6 = ysum (fun i => tpa (sw (ssn (aS A)) i)) (ssn (aS A)).length) ∧ lb en (sbk (aS A)) ∧ lm me (sms (aS A)) ∧ lsr se (ssn (aS A))
section
variable {L : Nat} {xs : Nat → Int32} {A A2 : yA} {q en me se : Nat → Int} {h : zH}
set_option maxRecDepth 100000 in
theorem W_call (w : Wd L xs A q en me se h) {m : Nat} {as : List zV} {r : Int} (p : ∀ F J V P, zKH h F J V P → CR h F J V P A → Pu h F V m as A2 r) (Q : zQ) (hQ : ∀ h2, Wd L xs A2 q en me se h2 → Q (some (vI r)) h2) : Ca m as h Q := by
  obtain ⟨ro, F, J, V, P, k, c, e1, e2, e3, e4⟩ := w
  have c1 := Ca_ro ro (p F J V P k c (fun r' h2 => r' = some (vI r) ∧ ∃ F2 J2 V2 P2, zKH h2 F2 J2 V2 P2 ∧ CR h2 F2 J2 V2 P2 A2 ∧ yMq F V F2 V2) (fun h2 F2 J2 V2 P2 k2 c2 u2 => ⟨rfl, F2, J2, V2, P2, k2, c2, u2⟩))
  refine c1.mono ?_
  rintro r' h2 ⟨ro2, rfl, F2, J2, V2, P2, k2, c2, u2⟩
  exact hQ h2 ⟨ro2, F2, J2, V2, P2, k2, c2, (u2.1 34 (by omega)).trans e1, (u2.1 35 (by omega)).trans e2, (u2.1 36 (by omega)).trans e3, (u2.1 37 (by omega)).trans e4⟩
set_option maxRecDepth 100000 in
theorem W_3 (w : Wd L xs A q en me se h) : h[3]? = some (oO 9 [vR 4, vR 19, vR 21, vR 22, vR 24, vR 26, vR 31, vR 33]) := by
  obtain ⟨ro, F, J, V, P, k, c, e1, e2, e3, e4⟩ := w
  exact kh_3 k
set_option maxRecDepth 100000 in
theorem W_34 (w : Wd L xs A q en me se h) : h[34]? = some (aI 7 q) := by
  obtain ⟨ro, F, J, V, P, k, c, e1, e2, e3, e4⟩ := w
  rw [← e1]; exact kh_34 k
set_option maxRecDepth 100000 in
theorem W_35 (w : Wd L xs A q en me se h) : h[35]? = some (aI 50 en) := by
  obtain ⟨ro, F, J, V, P, k, c, e1, e2, e3, e4⟩ := w
  rw [← e2]; exact kh_35 k
set_option maxRecDepth 100000 in
theorem W_36 (w : Wd L xs A q en me se h) : h[36]? = some (aI 4 me) := by
  obtain ⟨ro, F, J, V, P, k, c, e1, e2, e3, e4⟩ := w
  rw [← e3]; exact kh_36 k
set_option maxRecDepth 100000 in
theorem W_37 (w : Wd L xs A q en me se h) : h[37]? = some (aI 60 se) := by
  obtain ⟨ro, F, J, V, P, k, c, e1, e2, e3, e4⟩ := w
  rw [← e4]; exact kh_37 k
set_option maxRecDepth 100000 in
theorem W_38 (w : Wd L xs A q en me se h) : ∃ tt, h[38]? = some (aI 3 tt) := by
  obtain ⟨ro, F, J, V, P, k, c, e1, e2, e3, e4⟩ := w
  exact ⟨_, kh_38 k⟩
set_option maxRecDepth 100000 in
theorem W_T (w : Wd L xs A q en me se h) : ∀ i, i < (ssn (aS A)).length → yokT (sms (aS A)).length (sw (ssn (aS A)) i) := by
  obtain ⟨ro, F, J, V, P, k, c, e1, e2, e3, e4⟩ := w
  obtain ⟨q, N, G, o, ⟨r1, r2, r3⟩, -⟩ := c
  intro i hi
  exact (r1.2.2.2.1.2 i hi).1
set_option maxRecDepth 100000 in
theorem W_set (w : Wd L xs A q en me se h) (t n : Nat) (f : Nat → Int) (ht : 34 ≤ t ∧ t < 39) (hk : ∀ F J V P, zKH h F J V P → zKH (h.set t (aI n f)) (uF F t f) J V P) : yro (h.set t (aI n f)) L xs ∧ ∃ F J V P, zKH (h.set t (aI n f)) (uF F t f) J V P ∧ CR (h.set t (aI n f)) (uF F t f) J V P A ∧ F 34 = q ∧ F 35 = en ∧ F 36 = me ∧ F 37 = se := by
  obtain ⟨ro, F, J, V, P, k, c, e1, e2, e3, e4⟩ := w
  obtain ⟨q0, N, G, o, ⟨r1, r2, r3⟩, -⟩ := id c
  refine ⟨yro_fr ro (fun s hs => zsg_n (by omega)), F, J, V, P, hk F J V P k, ?_, e1, e2, e3, e4⟩
  exact CR_cg c (fun s hs => zsg_n (by omega)) (by rw [List.length_set]) ⟨uF_out (by omega), uF_out (by omega), uF_out (by omega), uF_out (by omega), uF_out (by omega), uF_out (by omega), uF_out (by omega), uF_out (by omega), uF_out (by omega), uF_out (by omega)⟩ ⟨rfl, rfl⟩ (fun _ _ => rfl) r3 ⟨rfl, rfl⟩
set_option maxRecDepth 100000 in
theorem W_s34 (w : Wd L xs A q en me se h) (f : Nat → Int) : Wd L xs A f en me se (h.set 34 (aI 7 f)) := by
  obtain ⟨ro, F, J, V, P, k, c, e1, e2, e3, e4⟩ := W_set w 34 7 f (by omega) (fun F J V P k => ks_34 k f)
  exact ⟨ro, _, J, V, P, k, c, rfl, e2, e3, e4⟩
set_option maxRecDepth 100000 in
theorem W_s35 (w : Wd L xs A q en me se h) (f : Nat → Int) : Wd L xs A q f me se (h.set 35 (aI 50 f)) := by
  obtain ⟨ro, F, J, V, P, k, c, e1, e2, e3, e4⟩ := W_set w 35 50 f (by omega) (fun F J V P k => ks_35 k f)
  exact ⟨ro, _, J, V, P, k, c, e1, rfl, e3, e4⟩
set_option maxRecDepth 100000 in
theorem W_s36 (w : Wd L xs A q en me se h) (f : Nat → Int) : Wd L xs A q en f se (h.set 36 (aI 4 f)) := by
  obtain ⟨ro, F, J, V, P, k, c, e1, e2, e3, e4⟩ := W_set w 36 4 f (by omega) (fun F J V P k => ks_36 k f)
  exact ⟨ro, _, J, V, P, k, c, e1, e2, rfl, e4⟩
set_option maxRecDepth 100000 in
theorem W_s37 (w : Wd L xs A q en me se h) (f : Nat → Int) : Wd L xs A q en me f (h.set 37 (aI 60 f)) := by
  obtain ⟨ro, F, J, V, P, k, c, e1, e2, e3, e4⟩ := W_set w 37 60 f (by omega) (fun F J V P k => ks_37 k f)
  exact ⟨ro, _, J, V, P, k, c, e1, e2, e3, rfl⟩
set_option maxRecDepth 100000 in
theorem W_Z (w : Wd L xs A q en me se h) (f : Nat → Int) : Wd L xs A q en me se (hhZ h f) := by
  obtain ⟨ro, F, J, V, P, k, c, e1, e2, e3, e4⟩ := W_set w 38 3 f (by omega) (fun F J V P k => ks_38 k f)
  exact ⟨ro, _, J, V, P, k, c, e1, e2, e3, e4⟩
set_option maxRecDepth 100000 in
theorem W_S (w : Wd L xs A q en me se h) (q2 se2 : Nat → Int) : Wd L xs A q2 en me se2 (hhS h q2 se2) := W_s37 (W_s34 w q2) se2
end
