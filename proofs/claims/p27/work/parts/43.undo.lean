/-! What a public method does to all that is kept; undo -/
def yMq (F : Nat → Nat → Int) (V : Nat → Int) (F2 : Nat → Nat → Int) (V2 : Nat → Int) : Prop := (∀ t, 34 ≤ t → F2 t = F t) ∧ ∀ t, 11 ≤ t → V2 t = V t
/-- a call of the class: the answer, and what is kept then -/
def Pu (h : zH) (F : Nat → Nat → Int) (V : Nat → Int) (m : Nat) (as : List zV) (A : yA) (r : Int) : Prop :=
  ∀ Q : zQ, (∀ h2 F2 J2 V2 P2, zKH h2 F2 J2 V2 P2 → CR h2 F2 J2 V2 P2 A → yMq F V F2 V2 → Q (some (vI r)) h2) → Ca m as h Q
section
variable {h h2 : zH} {F F2 : Nat → Nat → Int} {J J2 : Nat → Nat → Nat} {V V2 : Nat → Int} {P P2 : Nat → Nat → Option Nat} {S : yS} {A : yA}
set_option maxRecDepth 100000 in
theorem yMq_rf : yMq F V F V := ⟨fun _ _ => rfl, fun _ _ => rfl⟩
set_option maxRecDepth 100000 in
theorem Pu_same (k : zKH h F J V P) (c : CR h F J V P A) {m : Nat} {as : List zV} {r : Int} (g : Ca m as h (fun r' h' => r' = some (vI r) ∧ h' = h)) : Pu h F V m as A r := by
  intro Q hQ
  refine g.mono ?_
  rintro r' h' ⟨rfl, rfl⟩
  exact hQ _ _ _ _ _ k c yMq_rf
set_option maxRecDepth 100000 in
theorem CR_cg (c : CR h F J V P A) (e : ∀ t, 39 ≤ t → h2[t]? = h[t]?) (el : h2.length = h.length) (eF : F2 5 = F 5 ∧ F2 7 = F 7 ∧ F2 12 = F 12 ∧ F2 13 = F 13 ∧ F2 14 = F 14 ∧ F2 15 = F 15 ∧ F2 16 = F 16 ∧ F2 17 = F 17 ∧ F2 18 = F 18 ∧ F2 23 = F 23) (eJ : J2 8 = J 8 ∧ J2 11 = J 11) (eV : ∀ t, t < 6 → V2 t = V t) (e10 : V2 10 = 0 ∨ V2 10 = 1) (eP : P2 20 = P 20 ∧ P2 21 = P 21) : CR h2 F2 J2 V2 P2 A := by
  obtain ⟨q, N, G, o, ⟨r1, r2, r3⟩, hb, ho, hn, hL, h67, h6, h7⟩ := c
  obtain ⟨f5, f7, f12, f13, f14, f15, f16, f17, f18, f23⟩ := eF
  refine ⟨q, N, G, o, ⟨?_, ?_, e10⟩, HB_fr hb e el eP.1 eP.2 (fun _ _ _ x => x), ?_, ?_, hL, h67, h6, h7⟩
  · unfold rS rT at *
    rw [f5, f7, f12, f13, f14, f15, f16, f17, f18, eJ.1, eJ.2, eV 0 (by omega), eV 1 (by omega), eV 2 (by omega)]
    exact r1
  · rw [eV 5 (by omega), f23]; exact r2
  · rw [eV 3 (by omega)]; exact ho
  · rw [eV 4 (by omega)]; exact hn
end
